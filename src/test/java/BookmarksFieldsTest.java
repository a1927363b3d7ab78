import java.util.NoSuchElementException;

/** Promises 36 to 41: bookmarks and fields. */
public final class BookmarksFieldsTest {
    private static final Class<IndexOutOfBoundsException> BOUNDS = IndexOutOfBoundsException.class;
    private static final Class<IllegalArgumentException> ARGUMENT = IllegalArgumentException.class;

    public static void main(String[] args) {
        setBookmark();
        bookmarksKeepToTheirUnits();
        bookmarksOfUnitsThatGo();
        bookmarksOfUnitsThatAreNotSeen();
        lock();
        results();
        erasedAndGoneFields();
        roundsUntilNothingMoves();
        Check.end();
    }

    private static void setBookmark() {
        SealOffice x = Check.plain("abcd");
        Check.due("36: units", x.setBookmark(0, 1, 4), 3);
        Check.due("37: from", x.bookmarkFrom(0), 1);
        Check.due("38: to", x.bookmarkTo(0), 4);
        Check.due("36: in place of it", x.setBookmark(0, 2, 2), 0);
        Check.due("37: from", x.bookmarkFrom(0), 2);
        Check.due("38: to", x.bookmarkTo(0), 2);
        Check.due("36: another one", x.setBookmark(5, 0, 4), 4);
        Check.fails("36: bookmark 6", BOUNDS, () -> x.setBookmark(6, 1, 0));
        Check.fails("36: bookmark -1", BOUNDS, () -> x.setBookmark(-1, 0, 0));
        Check.fails("36: from", BOUNDS, () -> x.setBookmark(0, 5, 1));
        Check.fails("36: from -1", BOUNDS, () -> x.setBookmark(0, -1, 1));
        Check.fails("36: to", BOUNDS, () -> x.setBookmark(0, 0, 5));
        Check.fails("36: to -1", BOUNDS, () -> x.setBookmark(0, 0, -1));
        Check.fails("36: ahead", ARGUMENT, () -> x.setBookmark(0, 2, 1));
        Check.fails("37: bookmark 6", BOUNDS, () -> x.bookmarkFrom(6));
        Check.fails("37: bookmark -1", BOUNDS, () -> x.bookmarkFrom(-1));
        Check.fails("38: bookmark 6", BOUNDS, () -> x.bookmarkTo(6));
        Check.fails("38: bookmark -1", BOUNDS, () -> x.bookmarkTo(-1));
        Check.fails("37: never set", NoSuchElementException.class, () -> x.bookmarkFrom(1));
        Check.fails("38: never set", NoSuchElementException.class, () -> x.bookmarkTo(1));
        x.undo();
        Check.fails("37: undone", NoSuchElementException.class, () -> x.bookmarkFrom(5));
        x.undo();
        Check.due("36: the one before", Check.bookmark(x, 0), "1-4");
    }

    private static void bookmarksKeepToTheirUnits() {
        SealOffice x = Check.plain("abcd");
        x.setBookmark(0, 1, 3);
        x.setBookmark(1, 4, 4);
        x.insert(0, 1, 'x');
        Check.due("37: written ahead of its begin", Check.bookmark(x, 0), "2-4");
        x.insert(0, 4, 'y');
        Check.due("38: written ahead of its end", Check.bookmark(x, 0), "2-5");
        x.insert(0, 5, 'z');
        Check.due("38: again", Check.bookmark(x, 0), "2-6");
        x.insert(0, 7, 'w');
        Check.due("38: behind it", Check.bookmark(x, 0), "2-6");
        Check.due("38: the last end", Check.bookmark(x, 1), "8-8");
        x.judge(-1, false);
        Check.due("38: refused", Check.bookmark(x, 0), "1-3");
    }

    private static void bookmarksOfUnitsThatGo() {
        SealOffice x = Check.plain("abcd");
        x.setBookmark(0, 1, 3);
        x.setTracking(false);
        x.erase(0, 1, 2);
        Check.due("37: to the next one", Check.bookmark(x, 0), "1-2");
        x.erase(0, 1, 3);
        Check.due("38: to the last end", Check.bookmark(x, 0), "1-1");
        x.insert(0, 1, 'x');
        Check.due("37: which goes on", Check.bookmark(x, 0), "2-2");
        x.undo();
        x.undo();
        x.undo();
        Check.due("37: undone", Check.bookmark(x, 0), "1-3");
        x.erase(0, 3, 4);
        Check.due("38: the unit at its end goes", Check.bookmark(x, 0), "1-3");
        x.undo();
        x.erase(0, 0, 1);
        Check.due("38: one ahead of it goes", Check.bookmark(x, 0), "0-2");
        x.undo();
        x.setTracking(true);
        x.erase(1, 2, 3);
        x.setTracking(false);
        x.erase(1, 1, 2);
        x.refuse(0);
        Check.due("37: the next one that is there was erased", Check.text(x), "acd");
        Check.due("37: it keeps to that", Check.bookmark(x, 0), "1-2");
    }

    private static void bookmarksOfUnitsThatAreNotSeen() {
        SealOffice x = Check.plain("abcde");
        x.setBookmark(0, 1, 3);
        x.erase(0, 1, 4);
        Check.due("37: the next one that is seen", Check.bookmark(x, 0), "1-1");
        x.insert(1, 1, 'x');
        Check.due("37: what is written behind them is seen next", Check.bookmark(x, 0), "1-1");
        x.refuse(0);
        Check.due("37: there again", Check.text(x), "abcdxe");
        Check.due("38: as it was", Check.bookmark(x, 0), "1-3");
    }

    private static void lock() {
        SealOffice x = new SealOffice();
        x.addField(0, 0, 'c', 0);
        Check.due("39: was not", x.lock(0, true), false);
        Check.due("39: was", x.lock(0, true), true);
        Check.due("41: a locked one is left", x.update(), 0);
        Check.due("40: result", x.result(0), 0);
        Check.due("39: ended", x.lock(0, false), true);
        Check.due("41: then not", x.update(), 1);
        Check.due("40: result", x.result(0), 1);
        Check.fails("39: 1", BOUNDS, () -> x.lock(1, true));
        Check.fails("39: -1", BOUNDS, () -> x.lock(-1, true));
        Check.fails("40: 1", BOUNDS, () -> x.result(1));
        Check.fails("40: -1", BOUNDS, () -> x.result(-1));
    }

    private static void results() {
        SealOffice x = Check.plain("ab/cd/ef");
        x.setTracking(false);
        x.setPage(5, 2);
        x.setBookmark(2, 4, 8);
        x.setList(0, 0, 1);
        x.setList(1, 0, 1);
        char[] kinds = {'n', 'p', 'l', 'c', 'r', 'n', 'p', 'l'};
        int[] of = {2, 2, 2, 9, 1, 3, 3, 3};
        for (int field = 0; field < kinds.length; field++) {
            x.addField(0, 0, kinds[field], of[field]);
        }
        x.setRecord(3, 1, 77);
        x.choose(3);
        Check.due("40: at first", x.result(3), 0);
        Check.due("41: one round finds all", x.update(), 1);
        int[] due = {2, 2, 4, 3, 77, 0, 0, 0};
        for (int field = 0; field < due.length; field++) {
            Check.due("40: " + kinds[field], x.result(field), due[field]);
        }
        Check.due("41: nothing moves", x.update(), 0);
        x.setTracking(true);
        x.erase(1, 12, 15);
        x.update();
        Check.due("40: only units that are seen", x.result(2), 1);
        Check.due("40: paragraphs that are seen", x.result(3), 2);
        x.setBookmark(2, x.length(), x.length());
        x.update();
        Check.due("40: a paragraph in no list has 0", x.result(0), 0);
        Check.due("40: an empty bookmark", x.result(2), 0);
    }

    private static void erasedAndGoneFields() {
        SealOffice x = Check.plain("ab");
        x.addField(0, 0, 'c', 0);
        x.accept(0);
        x.erase(1, 0, 1);
        Check.due("41: an erased one is found", x.update(), 1);
        Check.due("40: result", x.result(0), 1);
        x.accept(1);
        x.insert(1, 0, '/');
        Check.due("41: one that is gone is left", x.update(), 0);
        Check.due("40: result", x.result(0), 1);
        x.undo();
        x.undo();
        Check.due("40: it is there again", x.result(0), 1);
        SealOffice y = Check.plain("ab");
        y.addField(0, 0, 'c', 0);
        y.update();
        y.undo();
        Check.due("40: undone, the result goes, too", y.result(0), 0);
        Check.due("41: an undone one is left", y.update(), 0);
        y.redo();
        Check.due("40: done again", y.result(0), 1);
    }

    private static void roundsUntilNothingMoves() {
        // The second digit of the page pushes the bookmark to the page behind it.
        SealOffice x = Check.plain("/".repeat(18) + "aaaaaaaaa");
        x.setTracking(false);
        x.setPage(5, 2);
        x.setBookmark(0, 26, 27);
        x.addField(0, 18, 'p', 0);
        Check.due("41: rounds", x.update(), 2);
        Check.due("40: page", x.result(0), 11);
        // Kept together, the two lines go to a tenth page; with that number there are three, which stay: so it turns.
        SealOffice y = Check.plain("/".repeat(17) + "aaaa/");
        y.setTracking(false);
        y.setPage(5, 2);
        y.addStyle(-1, false, 1);
        y.setStyle(0, 17, 1);
        y.setBookmark(0, 17, 17);
        y.addField(0, 17, 'p', 0);
        Check.due("41: at most 10 rounds", y.update(), 10);
        Check.due("40: as the last round found it", y.result(0), 9);
        Check.due("41: again", y.update(), 10);
        Check.due("40: as the last round found it", y.result(0), 9);
        // The value that a first round finds moves the page that a second one sees.
        SealOffice z = Check.plain("/".repeat(18) + "aa/");
        z.setTracking(false);
        z.setPage(5, 2);
        z.setBookmark(0, 21, 21);
        z.addField(0, 18, 'p', 0);
        z.addField(0, 18, 'r', 0);
        z.setRecord(0, 0, 123);
        Check.due("41: two rounds", z.update(), 2);
        Check.due("40: the record's value", z.result(1), 123);
        Check.due("40: moved by it", z.result(0), 11);
    }
}
