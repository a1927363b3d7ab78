/** Promises 42 to 48: records, letters, and pages. */
public final class RecordsPagesTest {
    private static final Class<IndexOutOfBoundsException> BOUNDS = IndexOutOfBoundsException.class;
    private static final Class<IllegalArgumentException> ARGUMENT = IllegalArgumentException.class;

    public static void main(String[] args) {
        records();
        merge();
        setPage();
        lines();
        fieldsInLines();
        places();
        pages();
        keptTogether();
        keptByParents();
        Check.end();
    }

    private static void records() {
        SealOffice x = new SealOffice();
        Check.due("42: at first", x.setRecord(4, 2, 9999), 0);
        Check.due("42: before", x.setRecord(4, 2, 0), 9999);
        Check.due("42: another one", x.setRecord(4, 1, 5), 0);
        Check.due("42: and another one", x.setRecord(3, 2, 6), 0);
        int[][] wrong = {{5, 0, 0}, {-1, 0, 0}, {0, 3, 0}, {0, -1, 0}, {0, 0, 10000}, {0, 0, -1}};
        for (int[] w : wrong) {
            Check.fails("42: out of range", ARGUMENT, () -> x.setRecord(w[0], w[1], w[2]));
        }
        Check.due("42: a refused value is not set", x.setRecord(0, 0, 1), 0);
        Check.due("43: at first", x.choose(4), 0);
        Check.due("43: before", x.choose(1), 4);
        Check.fails("43: 5", ARGUMENT, () -> x.choose(5));
        Check.fails("43: -1", ARGUMENT, () -> x.choose(-1));
        Check.due("43: still", x.choose(0), 1);
    }

    private static void merge() {
        SealOffice x = new SealOffice();
        Check.due("44: all skipped", x.merge(0, 0), 0);
        Check.due("44: none skipped", x.merge(0, -5), 5);
        Check.fails("44: column 3", ARGUMENT, () -> x.merge(3, 0));
        Check.fails("44: column -1", ARGUMENT, () -> x.merge(-1, 0));
        SealOffice y = Check.plain("/aaaa");
        y.setTracking(false);
        y.setPage(5, 2);
        y.addField(0, 1, 'r', 0);
        y.addField(0, 1, 'r', 0);
        y.lock(1, true);
        y.setRecord(0, 0, 1);
        y.setRecord(1, 0, 12);
        y.setRecord(2, 0, 1234);
        y.setRecord(4, 0, 1);
        y.choose(4);
        y.update();
        // 1 digit: 6 characters, 2 lines behind the first one; 4 digits: 9 characters, 2 lines as well
        Check.due("44: two pages each", y.merge(0, 0), 8);
        y.setPage(6, 2);
        // with 6 characters only records 1 and 2 need a second line, and so a second page
        Check.due("44: each by its own digits", y.merge(0, 0), 1 + 2 + 2 + 1);
        Check.due("44: skipping a value", y.merge(0, 1), 2 + 2 + 1);
        Check.due("44: another column", y.merge(1, 0), 0);
        Check.due("44: the chosen record is as before", y.choose(4), 4);
        Check.due("44: results are as before", y.result(0), 1);
        Check.due("44: and the locked one", y.result(1), 0);
        Check.due("44: nothing moved", y.update(), 0);
    }

    private static void setPage() {
        SealOffice x = new SealOffice();
        Check.due("45: at first", x.setPage(60, 40), 2008);
        Check.due("45: before", x.setPage(5, 2), 6040);
        Check.fails("45: width 4", ARGUMENT, () -> x.setPage(4, 2));
        Check.fails("45: width 61", ARGUMENT, () -> x.setPage(61, 2));
        Check.fails("45: lines 1", ARGUMENT, () -> x.setPage(5, 1));
        Check.fails("45: lines 41", ARGUMENT, () -> x.setPage(5, 41));
        Check.due("45: still", x.setPage(20, 8), 502);
    }

    // Which line each place has, on one page.
    private static void lines(String text, String due) {
        SealOffice x = Check.plain(text);
        x.setPage(5, 40);
        StringBuilder lines = new StringBuilder();
        for (int place = 0; place <= x.length(); place++) {
            lines.append(x.lineOf(place));
        }
        Check.due("48: " + text, lines, due);
    }

    private static void lines() {
        lines("", "0");
        lines("abcde", "000000");
        lines("abcdef", "0000011");
        lines("ab cd", "000000");
        lines("ab cd/", "0000001");
        lines("ab cde", "0001111");
        lines("abcd f", "0000011");
        lines("abcde f", "00000111");
        lines("abcde ", "0000011");
        lines("a b cd", "0000111");
        lines("a     ", "0000011");
        lines("     b", "0000011");
        lines(" aaaaa", "0111111");
        lines("ab/cd//e", "000111233");
        lines("abcdefghijk", "000001111122");
    }

    private static void fieldsInLines() {
        SealOffice x = Check.plain("abcd");
        x.setTracking(false);
        x.setPage(5, 2);
        x.addField(0, 4, 'r', 0);
        Check.due("46: one character at first", Check.spots(x), "0.0 0.0 0.0 0.0 0.0 0.0");
        x.setRecord(0, 0, 4321);
        x.update();
        Check.due("48: its characters are parted, the last place is behind the last of them", Check.spots(x),
                "0.0 0.0 0.0 0.0 0.0 0.1");
        x.insert(0, 5, 'e');
        x.insert(0, 6, 'f');
        x.insert(0, 7, 'g');
        Check.due("48: behind it", Check.spots(x), "0.0 0.0 0.0 0.0 0.0 0.1 0.1 1.0 1.0");
        x.setTracking(true);
        x.erase(0, 4, 5);
        Check.due("48: an erased one takes none", Check.spots(x), "0.0 0.0 0.0 0.0 0.0 0.1 0.1 0.1");
    }

    private static void places() {
        SealOffice x = Check.plain("abcde/f");
        x.setPage(5, 2);
        Check.due("47: an end is where the character ahead of it is", x.lineOf(5), 0);
        Check.due("47: behind it begins another one", x.lineOf(6), 1);
        Check.due("47: the last place", x.lineOf(7), 1);
        Check.fails("47: -1", BOUNDS, () -> x.pageOf(-1));
        Check.fails("47: 8", BOUNDS, () -> x.pageOf(8));
        Check.fails("48: -1", BOUNDS, () -> x.lineOf(-1));
        Check.fails("48: 8", BOUNDS, () -> x.lineOf(8));
        SealOffice y = Check.plain("//");
        y.setPage(5, 2);
        Check.due("48: empty ones have a line each", Check.spots(y), "0.0 0.1 1.0");
    }

    private static void pages() {
        SealOffice x = Check.plain("aaaaaaaaaa/aaaaa");
        x.setPage(5, 2);
        Check.due("46: pages", x.pages(), 2);
        Check.due("47: first", x.pageOf(10), 0);
        Check.due("47: second", x.pageOf(11), 1);
        x.setPage(5, 3);
        Check.due("46: one", x.pages(), 1);
        x.setPage(60, 2);
        Check.due("46: wide", x.pages(), 1);
        x.erase(0, 0, 11);
        x.setPage(5, 2);
        Check.due("46: only what is seen", x.pages(), 1);
    }

    private static SealOffice kept(String text, int lines, int... paragraphs) {
        SealOffice x = Check.plain(text);
        x.setPage(5, lines);
        x.addStyle(-1, false, 1);
        for (int paragraph : paragraphs) {
            x.setStyle(0, paragraph, 1);
        }
        return x;
    }

    private static void keptTogether() {
        Check.due("46: kept with the next one", Check.spots(kept("a/b/c", 2, 1)), "0.0 0.0 1.0 1.0 1.1 1.1");
        Check.due("46: not kept", Check.spots(kept("a/b/c", 2)), "0.0 0.0 0.1 0.1 1.0 1.0");
        Check.due("46: it goes there", Check.spots(kept("a/b/c", 2, 0)), "0.0 0.0 0.1 0.1 1.0 1.0");
        Check.due("46: it would not go on one page", Check.spots(kept("a/b/c/d", 2, 1, 2)), "0.0 0.0 0.1 0.1 1.0 1.0 1.1 1.1");
        Check.due("46: three go on one of three lines", Check.spots(kept("a/b/c/d", 3, 1, 2)), "0.0 0.0 1.0 1.0 1.1 1.1 1.2 1.2");
        Check.due("46: too many for a page, none of them moves", Check.spots(kept("a/b/c/d/e", 2, 0, 1, 2)),
                "0.0 0.0 0.1 0.1 1.0 1.0 1.1 1.1 2.0 2.0");
        Check.due("46: nor a last part of them", Check.spots(kept("aaaaaaaaaaa/b/c", 2, 0, 1)).substring(48), "1.1 1.1 2.0 2.0");
        Check.due("46: only the first line behind them", Check.spots(kept("a/b/ccccccc", 3, 1)),
                "0.0 0.0 0.1 0.1 0.2 0.2 0.2 0.2 0.2 1.0 1.0 1.0");
        Check.due("46: nothing behind them", Check.spots(kept("a/b/c", 2, 2)), "0.0 0.0 0.1 0.1 1.0 1.0");
        Check.due("46: the last ones, kept", Check.spots(kept("a/b/c", 2, 1, 2)), "0.0 0.0 1.0 1.0 1.1 1.1");
        Check.due("46: the page is full", Check.spots(kept("a/b/c/d", 2, 2)), "0.0 0.0 0.1 0.1 1.0 1.0 1.1 1.1");
        Check.due("46: at the begin of the first page", kept("a/b/c", 2, 0, 1, 2).pages(), 2);
        Check.due("46: one paragraph of two lines", Check.spots(kept("a/bbbbbb", 2, 1)), "0.0 0.0 1.0 1.0 1.0 1.0 1.0 1.1 1.1");
    }

    private static void keptByParents() {
        SealOffice x = kept("a/b/c", 2);
        x.addStyle(1, false, -1);
        x.addStyle(2, false, 0);
        x.addStyle(3, false, -1);
        x.addStyle(-1, false, -1);
        int[] pages = {0, 1, 1, 0, 0, 0};
        for (int style = 0; style < pages.length; style++) {
            x.setStyle(0, 1, style);
            Check.due("46: kept by style " + style, x.pageOf(2), pages[style]);
        }
    }
}
