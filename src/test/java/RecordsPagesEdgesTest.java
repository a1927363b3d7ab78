/** Promises 42 to 48, and the term pages: each sentence that names an edge. */
public final class RecordsPagesEdgesTest {
    private static final Story EMPTY = new Story();
    private static final int LEAST = Integer.MIN_VALUE;
    private static final int MOST = Integer.MAX_VALUE;

    public static void main(String[] args) {
        setRecord();
        setRecordRefuses();
        choose();
        merge();
        mergeGivesBack();
        mergeRefuses();
        setPage();
        setPageRefuses();
        linesOfLetters();
        linesWithBlanks();
        widestLines();
        linesOfFields();
        placesOfFields();
        placesAtEnds();
        wrongPlaces();
        pages();
        tallestPages();
        mostPages();
        keptOnAPage();
        keptOnOnePageAlone();
        keptWithWhatComesBehind();
        keptByStyles();
        onlyWhatIsSeen();
        Check.end();
    }

    private static void setRecord() {
        for (int k = 0; k < 15; k++) {
            int at = k;
            for (int value : new int[] {0, 1, 9998, 9999}) {
                EMPTY.answers("42: 0 before", 0, x -> x.setRecord(at / 3, at % 3, value));
                Story set = EMPTY.then(x -> x.setRecord(at / 3, at % 3, value));
                for (int m = 0; m < 15; m++) {
                    int other = m;
                    set.answers("42: each for itself", m == k ? value : 0, x -> x.setRecord(other / 3, other % 3, 5));
                }
            }
        }
        EMPTY.then(x -> x.insert(0, 0, 'a')).then(x -> x.setRecord(1, 1, 5)).then(x -> x.undo())
                .answers("42: it is not undone", 5, x -> x.setRecord(1, 1, 6));
    }

    private static void setRecordRefuses() {
        Story set = EMPTY.then(x -> x.setRecord(4, 2, 77)).then(x -> x.setRecord(0, 0, 66));
        for (int record : new int[] {-1, 5, LEAST, MOST}) {
            set.badArgument("42: record " + record, x -> x.setRecord(record, 0, 1));
        }
        for (int column : new int[] {-1, 3, LEAST, MOST}) {
            set.badArgument("42: column " + column, x -> x.setRecord(0, column, 1));
            set.badArgument("42: column " + column, x -> x.setRecord(4, column, 1));
        }
        for (int value : new int[] {-1, 10000, LEAST, MOST}) {
            set.badArgument("42: value " + value, x -> x.setRecord(4, 2, value));
        }
    }

    private static void choose() {
        for (int k = 0; k < 5; k++) {
            int record = k;
            EMPTY.answers("43: 0 before", 0, x -> x.choose(record));
            EMPTY.then(x -> x.choose(record)).answers("43: before", record, x -> x.choose(2));
            Story.plain("").then(x -> x.choose(record)).then(x -> x.insert(0, 0, 'a')).then(x -> x.undo())
                    .answers("43: it is not undone", record, x -> x.choose(0));
        }
        Story chosen = EMPTY.then(x -> x.choose(3));
        for (int wrong : new int[] {-1, 5, LEAST, MOST}) {
            chosen.badArgument("43: record " + wrong, x -> x.choose(wrong));
        }
    }

    // Its only line grows to a second one, and so to a second page, with the third digit; the records have 1 to 4.
    private static Story letters() {
        return Story.plain("/aaaa").then(x -> x.setTracking(false)).then(x -> x.setPage(6, 2))
                .then(x -> x.addField(0, 1, 'r', 1)).then(x -> x.setRecord(0, 1, 9)).then(x -> x.setRecord(1, 1, 10))
                .then(x -> x.setRecord(2, 1, 100)).then(x -> x.setRecord(3, 1, 9999)).then(x -> x.setRecord(4, 1, 9));
    }

    private static void merge() {
        EMPTY.answers("44: all are skipped", 0, x -> x.merge(0, 0));
        for (int skip : new int[] {-1, 1, 10000, LEAST, MOST}) {
            EMPTY.answers("44: none is skipped", 5, x -> x.merge(2, skip));
        }
        for (int k = 0; k < 5; k++) {
            int record = k;
            Story one = EMPTY.then(x -> x.setRecord(record, 2, 1));
            one.answers("44: only that record", 1, x -> x.merge(2, 0));
            one.answers("44: all but that record", 4, x -> x.merge(2, 1));
        }
        Story text = letters();
        text.answers("44: each by its own digits", 1 + 1 + 2 + 2 + 1, x -> x.merge(1, 0));
        text.answers("44: two with the same value", 1 + 2 + 2, x -> x.merge(1, 9));
        text.answers("44: the last digit", 1 + 1 + 2 + 1, x -> x.merge(1, 9999));
        text.answers("44: by another column all are skipped", 0, x -> x.merge(0, 0));
        text.answers("44: by another column none is", 7, x -> x.merge(2, 1));
        text.then(x -> x.lock(0, true)).answers("44: a locked field is left", 5, x -> x.merge(1, 0));
        text.then(x -> x.choose(3)).then(x -> x.update()).then(x -> x.lock(0, true))
                .answers("44: with what it has", 10, x -> x.merge(1, 0));
        Story gone = text.then(x -> x.erase(0, 1, 2));
        gone.answers("44: one that is gone takes nothing", 5, x -> x.merge(1, 0));
    }

    private static void mergeGivesBack() {
        Story text = letters().then(x -> x.choose(2)).then(x -> x.update());
        for (int skip : new int[] {0, 9, 9999}) {
            Story merged = text.then(x -> x.merge(1, skip));
            merged.answers("44: the result is as before", 100, x -> x.result(0));
            merged.answers("44: the chosen record is as before", 2, x -> x.choose(0));
            merged.answers("44: so nothing moves", 0, x -> x.update());
            merged.answers("44: and there are as many pages", 2, x -> x.pages());
        }
        Story first = letters().then(x -> x.merge(1, 0));
        first.answers("44: also results that were never found", 0, x -> x.result(0));
        first.answers("44: it is no edit", 5, x -> x.undo());
        Story page = Story.plain("/aaaa/").then(x -> x.setTracking(false)).then(x -> x.setPage(6, 2))
                .then(x -> x.setBookmark(0, 6, 6)).then(x -> x.addField(0, 6, 'p', 0)).then(x -> x.addField(0, 1, 'r', 0))
                .then(x -> x.setRecord(1, 0, 100)).then(x -> x.merge(0, -1));
        page.answers("44: other results, too", 0, x -> x.result(0));
    }

    private static void mergeRefuses() {
        Story text = letters().then(x -> x.choose(2)).then(x -> x.update());
        for (int column : new int[] {-1, 3, LEAST, MOST}) {
            text.badArgument("44: column " + column, x -> x.merge(column, 0));
        }
    }

    private static void setPage() {
        EMPTY.answers("45: at first", 2008, x -> x.setPage(7, 3));
        for (int width : new int[] {5, 6, 59, 60}) {
            for (int lines : new int[] {2, 3, 39, 40}) {
                EMPTY.answers("45: at first", 2008, x -> x.setPage(width, lines));
                EMPTY.then(x -> x.setPage(width, lines)).answers("45: before", 100 * width + lines, x -> x.setPage(7, 3));
            }
        }
        EMPTY.then(x -> x.insert(0, 0, 'a')).then(x -> x.setPage(7, 3)).then(x -> x.undo())
                .answers("45: it is not undone", 703, x -> x.setPage(8, 4));
    }

    private static void setPageRefuses() {
        Story set = EMPTY.then(x -> x.setPage(7, 3));
        for (int width : new int[] {4, 61, 0, -5, LEAST, MOST}) {
            set.badArgument("45: width " + width, x -> x.setPage(width, 9));
        }
        for (int lines : new int[] {1, 41, 0, -2, LEAST, MOST}) {
            set.badArgument("45: lines " + lines, x -> x.setPage(9, lines));
        }
    }

    // The line of each place, with 5 characters a line, all on one page.
    private static void lines(String text, String due) {
        SealOffice x = Story.plain(text).then(y -> y.setPage(5, 40)).office();
        StringBuilder lines = new StringBuilder();
        for (int place = 0; place <= text.length(); place++) {
            lines.append(x.lineOf(place));
        }
        Check.due("48: \"" + text + "\"", lines, due);
        Check.due("46: one page", x.pages(), 1);
    }

    private static void linesOfLetters() {
        lines("", "0");
        lines("a", "00");
        lines("abcd", "00000");
        lines("abcde", "000000");
        lines("abcdef", "0000011");
        lines("abcdefghij", "00000111111");
        lines("abcdefghijk", "000001111122");
        lines("/", "01");
        lines("//", "012");
        lines("abcde/", "0000001");
        lines("abcdef/", "00000112");
        lines("abcde/fghij", "000000111111");
        lines("/abcdef/", "011111223");
    }

    private static void linesWithBlanks() {
        lines("ab de", "000000");
        lines("ab def", "0001111");
        lines("abcd e", "0000011");
        lines("abcd ef", "00000111");
        lines("abcde ", "0000011");
        lines("abcde f", "00000111");
        lines("abcd /e", "00000011");
        lines("a c ef", "0000111");
        lines("a cdef", "0011111");
        lines(" bcde", "000000");
        lines(" bcdef", "0111111");
        lines("     ", "000000");
        lines("      ", "0000011");
        lines("           ", "000001111122");
        lines("a bcdefg", "001111122");
        lines("abcdef h", "000001111");
        lines("abcdefg ijklm", "00000111222222");
        lines("ab cd ef gh", "000111222222");
        lines("ab cde/ab cd", "0001111222222");
    }

    private static void widestLines() {
        Story sixty = Story.plain("a".repeat(60)).then(x -> x.setPage(60, 2));
        sixty.answers("45: 60 characters go into the widest line", 0, x -> x.lineOf(60));
        Story more = sixty.then(x -> x.insert(0, 60, 'b'));
        more.answers("45: the 61st begins another one", 1, x -> x.lineOf(60));
        more.answers("45: the 60th does not", 0, x -> x.lineOf(59));
        Story blank = sixty.then(x -> x.insert(0, 1, ' '));
        blank.answers("48: behind its last blank, wherever that is", 0, x -> x.lineOf(1));
        blank.answers("48: what comes behind it", 1, x -> x.lineOf(2));
        Story twenty = Story.plain("a".repeat(21));
        twenty.answers("45: 20 at first", 0, x -> x.lineOf(19));
        twenty.answers("45: the 21st", 1, x -> x.lineOf(20));
        Story all = Story.plain("a".repeat(200)).then(x -> x.setPage(5, 40));
        all.answers("46: 200 letters are 40 lines of 5", 1, x -> x.pages());
        all.answers("48: the 40th", 39, x -> x.lineOf(200));
        all.then(x -> x.setPage(5, 39)).answers("46: one more than 39", 2, x -> x.pages());
        all.then(x -> x.setPage(60, 2)).answers("46: 4 lines of 60", 2, x -> x.pages());
    }

    // "abc" and a field behind it, with the value of the record 0 and 5 characters a line.
    private static Story field(int value) {
        return Story.plain("abc").then(x -> x.setTracking(false)).then(x -> x.setPage(5, 40))
                .then(x -> x.addField(0, 3, 'r', 0)).then(x -> x.setRecord(0, 0, value)).then(x -> x.update());
    }

    private static void linesOfFields() {
        Story never = Story.plain("abc").then(x -> x.setPage(5, 40)).then(x -> x.addField(0, 3, 'c', 0));
        Check.due("48: 0 takes one character", Check.spots(never.type(0, 4, "d").office()), "0.0 0.0 0.0 0.0 0.0 0.0");
        Check.due("48: and no more", Check.spots(never.type(0, 4, "de").office()), "0.0 0.0 0.0 0.0 0.0 0.1 0.1");
        int[] values = {0, 9, 10, 99, 100, 999, 1000, 9999};
        int[] lines = {0, 0, 0, 0, 1, 1, 1, 1};
        for (int k = 0; k < values.length; k++) {
            field(values[k]).answers("48: behind " + values[k], lines[k], x -> x.lineOf(4));
            field(values[k]).answers("48: ahead of " + values[k], 0, x -> x.lineOf(3));
        }
        Story wide = field(9999).type(0, 4, "d");
        wide.answers("48: 8 characters are two lines", 1, x -> x.lineOf(5));
        Story wider = field(9999).type(0, 4, "def");
        wider.answers("48: 10 are, too", 1, x -> x.lineOf(7));
        wider.type(0, 7, "g").answers("48: 11 are three", 2, x -> x.lineOf(8));
        Story two = Story.plain("").then(x -> x.setTracking(false)).then(x -> x.setPage(5, 40))
                .times(3, x -> x.addField(0, 0, 'r', 0)).then(x -> x.setRecord(0, 0, 1000)).then(x -> x.update());
        Check.due("48: one behind the other, parted where the line ends", Check.spots(two.office()), "0.0 0.0 0.1 0.2");
        Story most = EMPTY.then(x -> x.setPage(5, 2)).then(x -> x.setTracking(false)).times(20, x -> x.addField(0, 0, 'r', 0))
                .then(x -> x.setRecord(0, 0, 9999)).then(x -> x.update()).type(0, 0, "a".repeat(180));
        most.answers("46: 260 characters, the most that there can be", 26, x -> x.pages());
    }

    private static void placesOfFields() {
        Story text = field(9999).type(0, 4, " d");
        Check.due("48: a blank that comes next is a blank as any", Check.spots(text.office()), "0.0 0.0 0.0 0.0 0.1 0.1 0.1");
        Story blank = Story.plain("a ").then(x -> x.setTracking(false)).then(x -> x.setPage(5, 40))
                .then(x -> x.addField(0, 2, 'r', 0)).then(x -> x.setRecord(0, 0, 1234)).then(x -> x.update());
        Check.due("48: behind the last blank, also ahead of a field", Check.spots(blank.office()), "0.0 0.0 0.1 0.1");
        Story full = Story.plain("abcde").then(x -> x.setPage(5, 40)).then(x -> x.addField(0, 5, 'c', 0));
        Check.due("48: its characters may begin another line", Check.spots(full.office()), "0.0 0.0 0.0 0.0 0.0 0.1 0.1");
        Story next = Story.plain("a").then(x -> x.setTracking(false)).then(x -> x.setPage(5, 40))
                .then(x -> x.addField(0, 1, 'r', 0)).then(x -> x.setRecord(0, 0, 1234)).then(x -> x.update()).type(0, 2, " b");
        Check.due("48: so may a blank behind them", Check.spots(next.office()), "0.0 0.0 0.1 0.1 0.1");
        Story pages = field(9999).then(x -> x.setPage(5, 2)).type(0, 0, "/");
        Check.due("47: a field that two pages share is where its first character is", Check.spots(pages.office()),
                "0.0 0.1 0.1 0.1 0.1 1.0");
    }

    private static void placesAtEnds() {
        Story text = Story.plain("abcde//fg/").then(x -> x.setPage(5, 2));
        Check.due("48: an end is where the character ahead of it is, an empty paragraph has a line", Check.spots(text.office()),
                "0.0 0.0 0.0 0.0 0.0 0.0 0.1 1.0 1.0 1.0 1.1");
        Story full = Story.plain("abcdefghij/k").then(x -> x.setPage(5, 2));
        Check.due("47: also if its page is full", Check.spots(full.office()),
                "0.0 0.0 0.0 0.0 0.0 0.1 0.1 0.1 0.1 0.1 0.1 1.0 1.0");
        Story erased = Story.plain("abc/de").then(x -> x.setPage(5, 2)).then(x -> x.erase(0, 0, 3));
        Check.due("48: one of which nothing is seen is empty", Check.spots(erased.office()), "0.0 0.1 0.1 0.1");
    }

    private static void wrongPlaces() {
        Story text = Story.plain("ab/c").then(x -> x.setPage(5, 2));
        for (int place : new int[] {-1, 5, LEAST, MOST}) {
            text.outOfBounds("47: place " + place, x -> x.pageOf(place));
            text.outOfBounds("48: place " + place, x -> x.lineOf(place));
        }
        EMPTY.answers("47: the only place", 0, x -> x.pageOf(0));
        EMPTY.answers("48: the only place", 0, x -> x.lineOf(0));
        EMPTY.outOfBounds("47: one behind it", x -> x.pageOf(1));
        EMPTY.outOfBounds("48: one behind it", x -> x.lineOf(1));
        text.answers("47: the last place", 0, x -> x.pageOf(4));
        text.answers("48: the last place", 1, x -> x.lineOf(4));
        Story erased = text.then(x -> x.erase(0, 0, 1));
        erased.outOfBounds("47: places that are seen", x -> x.pageOf(4));
        erased.outOfBounds("48: places that are seen", x -> x.lineOf(4));
    }

    private static void pages() {
        EMPTY.answers("46: one, of a new one", 1, x -> x.pages());
        int[] paragraphs = {1, 2, 3, 4, 5};
        int[] pages = {1, 1, 2, 2, 3};
        for (int k = 0; k < paragraphs.length; k++) {
            Story text = Story.plain("/".repeat(paragraphs[k] - 1)).then(x -> x.setPage(5, 2));
            text.answers("46: " + paragraphs[k] + " lines", pages[k], x -> x.pages());
            int last = paragraphs[k] - 1;
            text.answers("47: the last place is on the last page", pages[k] - 1, x -> x.pageOf(last));
            text.answers("48: lines are counted from 0 on each", last % 2, x -> x.lineOf(last));
        }
        Story first = Story.plain("/".repeat(7));
        first.answers("45: 8 lines at first", 1, x -> x.pages());
        first.then(x -> x.insert(0, 0, '/')).answers("45: the 9th", 2, x -> x.pages());
        Story parted = Story.plain("abcdefghijk").then(x -> x.setPage(5, 2));
        parted.answers("46: a paragraph may go on over pages", 2, x -> x.pages());
        parted.answers("47: its last line", 1, x -> x.pageOf(11));
        parted.answers("48: its last line", 0, x -> x.lineOf(11));
    }

    private static void tallestPages() {
        Story forty = Story.plain("/".repeat(39)).then(x -> x.setPage(5, 40));
        forty.answers("45: 40 lines go on the tallest page", 1, x -> x.pages());
        forty.answers("48: the last of them", 39, x -> x.lineOf(39));
        Story more = forty.then(x -> x.insert(0, 0, '/'));
        more.answers("45: the 41st begins another one", 2, x -> x.pages());
        more.answers("47: it is there", 1, x -> x.pageOf(40));
        more.answers("48: on its first line", 0, x -> x.lineOf(40));
    }

    private static void mostPages() {
        Story ends = Story.plain("/".repeat(200)).then(x -> x.setPage(5, 2));
        ends.answers("46: 201 lines, two a page", 101, x -> x.pages());
        ends.answers("47: the last one", 100, x -> x.pageOf(200));
        ends.answers("48: the last one", 0, x -> x.lineOf(200));
        ends.answers("47: the one ahead", 99, x -> x.pageOf(199));
        Story kept = Story.plain("/".repeat(150)).then(x -> x.setPage(5, 2)).then(x -> x.setTracking(false))
                .then(x -> x.addStyle(-1, false, 1));
        for (int k = 1; k < 150; k += 2) {
            int paragraph = k;
            kept = kept.then(x -> x.setStyle(0, paragraph, 1));
        }
        kept.answers("46: one line on the first page, then two and two", 76, x -> x.pages());
    }

    // 5 characters a line; these paragraphs are kept with the next one.
    private static Story kept(int lines, String text, int... paragraphs) {
        Story story = Story.plain(text).then(x -> x.setPage(5, lines)).then(x -> x.addStyle(-1, false, 1))
                .then(x -> x.setTracking(false));
        for (int k : paragraphs) {
            story = story.then(x -> x.setStyle(0, k, 1));
        }
        return story;
    }

    // The page and line on which each paragraph begins.
    private static void begins(String what, Story story, String due) {
        SealOffice x = story.office();
        StringBuilder begins = new StringBuilder();
        for (int paragraph = 0; paragraph < x.paragraphs(); paragraph++) {
            int start = x.startOf(paragraph);
            begins.append(paragraph == 0 ? "" : " ").append(x.pageOf(start)).append('.').append(x.lineOf(start));
        }
        Check.due("46: " + what, begins, due);
    }

    private static void keptOnAPage() {
        begins("not kept", kept(3, "a/b/c/d/e"), "0.0 0.1 0.2 1.0 1.1");
        begins("they go on the page", kept(3, "a/b/c/d/e", 1), "0.0 0.1 0.2 1.0 1.1");
        begins("the next one would be on another page", kept(3, "a/b/c/d/e", 2), "0.0 0.1 1.0 1.1 1.2");
        begins("the page is full, they begin on a new one anyway", kept(3, "a/b/c/d/e", 3), "0.0 0.1 0.2 1.0 1.1");
        begins("nothing is behind the last one", kept(3, "a/b/c", 2), "0.0 0.1 0.2");
        begins("nothing behind the only one", kept(2, "a", 0), "0.0");
        begins("the first ones are there already", kept(3, "a/b/c/d", 0, 1), "0.0 0.1 0.2 1.0");
        begins("three from the second line on", kept(3, "a/b/c/d", 1, 2), "0.0 1.0 1.1 1.2");
        begins("two runs", kept(3, "a/b/c/d/e/f", 2, 4), "0.0 0.1 1.0 1.1 2.0 2.1");
        begins("one run, and what it is kept with begins another", kept(3, "a/b/c/d/e", 1, 3), "0.0 0.1 0.2 1.0 1.1");
        begins("its lines, too", kept(3, "a/bcdefg/h", 1), "0.0 1.0 1.2");
        begins("its lines go there", kept(4, "a/bcdefg/h", 1), "0.0 0.1 0.3");
    }

    private static void keptOnOnePageAlone() {
        begins("as many lines as the page has", kept(3, "a/bcdefg/h/i", 1), "0.0 1.0 1.2 2.0");
        begins("one line more than a page has", kept(3, "a/bcdefghijklm/n", 1), "0.0 0.1 1.1");
        begins("two paragraphs and one behind, one line more", kept(2, "a/b/c/d", 1, 2), "0.0 0.1 1.0 1.1");
        begins("without the one behind they would go", kept(2, "a/b/c", 1, 2), "0.0 1.0 1.1");
        begins("all of them, too many", kept(2, "a/b/c/d/e", 0, 1, 2, 3, 4), "0.0 0.1 1.0 1.1 2.0");
        begins("too many, so neither does the last part of them move", kept(2, "a/b/c/d/e", 0, 1, 2, 3), "0.0 0.1 1.0 1.1 2.0");
        begins("nor with a page of three", kept(3, "abcdef/b/c/d", 0, 1, 2), "0.0 0.2 1.0 1.1");
        begins("the last ones, as many as go", kept(3, "a/b/c/d", 1, 2, 3), "0.0 1.0 1.1 1.2");
        begins("the last ones, one more", kept(3, "a/b/c/d/e", 1, 2, 3, 4), "0.0 0.1 0.2 1.0 1.1");
        begins("40 lines", kept(40, "a" + "/".repeat(40) + "b", java.util.stream.IntStream.range(1, 40).toArray()), fortyBehind());
    }

    // A line on the first page, and 40 that are kept together and fill the second one; one is left.
    private static String fortyBehind() {
        StringBuilder due = new StringBuilder("0.0");
        for (int line = 0; line < 40; line++) {
            due.append(" 1.").append(line);
        }
        return due.toString();
    }

    private static void keptWithWhatComesBehind() {
        begins("only the first line of it", kept(2, "a/b/cdefghijk", 1), "0.0 1.0 1.1");
        begins("the first line goes, the others do not matter", kept(3, "a/b/cdefghijk", 1), "0.0 0.1 0.2");
        begins("it is empty, but has a line", kept(2, "a/b/", 1), "0.0 1.0 1.1");
        begins("an empty one is kept, too", kept(2, "a//b", 1), "0.0 1.0 1.1");
        Check.due("46: the other lines go on", Check.spots(kept(2, "a/b/cdefghijk", 1).office()),
                "0.0 0.0 1.0 1.0 1.1 1.1 1.1 1.1 1.1 2.0 2.0 2.0 2.0 2.0");
    }

    private static void keptByStyles() {
        Story text = Story.plain("a/b/c").then(x -> x.setPage(5, 2)).then(x -> x.setTracking(false));
        Story styles = text.then(x -> x.addStyle(-1, false, 1)).then(x -> x.addStyle(-1, false, 0))
                .then(x -> x.addStyle(-1, false, -1)).then(x -> x.addStyle(1, false, -1)).then(x -> x.addStyle(4, false, 0))
                .then(x -> x.addStyle(2, true, 1)).then(x -> x.addStyle(6, true, -1));
        boolean[] keeps = {false, true, false, false, true, false, true, true};
        for (int k = 0; k < keeps.length; k++) {
            int style = k;
            begins("kept by the style " + k, styles.then(x -> x.setStyle(0, 1, style)), keeps[k] ? "0.0 1.0 1.1" : "0.0 0.1 1.0");
        }
        Story chain = text.then(x -> x.addStyle(-1, false, 1)).times(1, x -> x.addStyle(1, false, -1))
                .then(x -> x.addStyle(2, false, -1)).then(x -> x.addStyle(3, false, -1)).then(x -> x.addStyle(4, false, -1))
                .then(x -> x.addStyle(5, false, -1)).then(x -> x.addStyle(6, false, -1));
        begins("told by the first of eight", chain.then(x -> x.setStyle(0, 1, 7)), "0.0 1.0 1.1");
        Story waits = text.then(x -> x.addStyle(-1, false, 1)).then(x -> x.setTracking(true)).then(x -> x.setStyle(0, 1, 1));
        begins("by a style whose change waits", waits, "0.0 1.0 1.1");
        begins("not when it is refused", waits.then(x -> x.refuse(0)), "0.0 0.1 1.0");
    }

    private static void onlyWhatIsSeen() {
        Story text = Story.plain("abcdefghijk/l").then(x -> x.setPage(5, 2));
        text.then(x -> x.erase(0, 1, 11)).answers("46: erased units take no line", 1, x -> x.pages());
        text.then(x -> x.erase(0, 1, 11)).then(x -> x.refuse(0)).answers("46: there again", 2, x -> x.pages());
        Story joined = Story.plain("ab/cd").then(x -> x.setPage(5, 2)).then(x -> x.erase(0, 2, 3));
        Check.due("46: joined paragraphs go on one line", Check.spots(joined.office()), "0.0 0.0 0.0 0.0 0.0");
        Story kept = kept(2, "a/b/c", 1).then(x -> x.setTracking(true)).then(x -> x.erase(0, 3, 4));
        begins("one whose end is not seen has what the next one has", kept, "0.0 0.1");
        Story written = Story.plain("abcde").then(x -> x.setPage(5, 2)).then(x -> x.insert(0, 5, 'f'));
        written.answers("46: what was written takes its place", 1, x -> x.lineOf(5));
    }
}
