/** Promises 36 to 41, and the terms bookmarks and fields: each sentence that names an edge. */
public final class BookmarksFieldsEdgesTest {
    private static final Story EMPTY = new Story();
    private static final int LEAST = Integer.MIN_VALUE;
    private static final int MOST = Integer.MAX_VALUE;

    public static void main(String[] args) {
        setBookmark();
        setBookmarkRefuses();
        bookmarkNumbers();
        bookmarkKeepsToUnits();
        bookmarkOfUnitsThatGo();
        bookmarkOfUnitsNotSeen();
        bookmarkOfTheLastEnd();
        fieldNumbers();
        lock();
        resultsAtFirst();
        numberField();
        pageField();
        lengthField();
        paragraphsField();
        recordField();
        fieldsThatAreLeft();
        rounds();
        mostRounds();
        Check.end();
    }

    private static void bookmarkIs(String what, Story story, int from, int to) {
        story.answers(what + ", from", from, x -> x.bookmarkFrom(0));
        story.answers(what + ", to", to, x -> x.bookmarkTo(0));
    }

    private static void setBookmark() {
        Story text = Story.plain("ab/c");
        for (int from = 0; from <= 4; from++) {
            for (int to = from; to <= 4; to++) {
                int first = from;
                int behind = to;
                text.answers("36: its units", to - from, x -> x.setBookmark(0, first, behind));
                bookmarkIs("36: set", text.then(x -> x.setBookmark(0, first, behind)), from, to);
            }
        }
        EMPTY.answers("36: at the only place", 0, x -> x.setBookmark(5, 0, 0));
        bookmarkIs("36: at the only place", EMPTY.then(x -> x.setBookmark(0, 0, 0)), 0, 0);
        Story moved = text.then(x -> x.setBookmark(0, 0, 4)).then(x -> x.setBookmark(0, 1, 2));
        bookmarkIs("36: in place of another one", moved, 1, 2);
        bookmarkIs("36: undone, that one", moved.then(x -> x.undo()), 0, 4);
        moved.then(x -> x.undo()).then(x -> x.undo()).noElement("37: undone, it was never set", x -> x.bookmarkFrom(0));
        moved.then(x -> x.undo()).then(x -> x.undo()).noElement("38: undone, it was never set", x -> x.bookmarkTo(0));
        Story full = Story.plain("a".repeat(200));
        full.answers("36: all 200", 200, x -> x.setBookmark(0, 0, 200));
        bookmarkIs("36: all 200", full.then(x -> x.setBookmark(0, 0, 200)), 0, 200);
        Story erased = text.then(x -> x.erase(0, 1, 3));
        erased.answers("36: units that are seen", 2, x -> x.setBookmark(0, 0, 2));
        erased.outOfBounds("36: places that are seen", x -> x.setBookmark(0, 0, 3));
    }

    private static void setBookmarkRefuses() {
        Story text = Story.plain("abc").then(x -> x.setBookmark(0, 1, 2));
        for (int wrong : new int[] {-1, 6, LEAST, MOST}) {
            text.outOfBounds("36: bookmark " + wrong, x -> x.setBookmark(wrong, 0, 1));
            text.outOfBounds("36: bookmark ahead of less than empty", x -> x.setBookmark(wrong, 1, 0));
        }
        for (int wrong : new int[] {-1, 4, LEAST, MOST}) {
            text.outOfBounds("36: from " + wrong, x -> x.setBookmark(0, wrong, 3));
            text.outOfBounds("36: to " + wrong, x -> x.setBookmark(0, 3, wrong));
            text.outOfBounds("36: from " + wrong + " ahead of less than empty", x -> x.setBookmark(0, wrong, 0));
            text.outOfBounds("36: both " + wrong, x -> x.setBookmark(0, wrong, wrong));
        }
        text.badArgument("36: it ends one ahead", x -> x.setBookmark(0, 2, 1));
        text.badArgument("36: it ends at the begin", x -> x.setBookmark(5, 3, 0));
        EMPTY.outOfBounds("36: there is one place alone", x -> x.setBookmark(0, 0, 1));
    }

    private static void bookmarkNumbers() {
        for (int wrong : new int[] {-1, 6, LEAST, MOST}) {
            EMPTY.outOfBounds("37: bookmark " + wrong, x -> x.bookmarkFrom(wrong));
            EMPTY.outOfBounds("38: bookmark " + wrong, x -> x.bookmarkTo(wrong));
        }
        for (int k = 0; k < 6; k++) {
            int bookmark = k;
            EMPTY.noElement("37: never set, " + k, x -> x.bookmarkFrom(bookmark));
            EMPTY.noElement("38: never set, " + k, x -> x.bookmarkTo(bookmark));
            Story set = Story.plain("ab").then(x -> x.setBookmark(bookmark, 1, 2));
            for (int m = 0; m < 6; m++) {
                int other = m;
                if (m == k) {
                    set.answers("37: bookmark " + k, 1, x -> x.bookmarkFrom(other));
                    set.answers("38: bookmark " + k, 2, x -> x.bookmarkTo(other));
                } else {
                    set.noElement("37: the others were never set", x -> x.bookmarkFrom(other));
                    set.noElement("38: the others were never set", x -> x.bookmarkTo(other));
                }
            }
        }
    }

    private static void bookmarkKeepsToUnits() {
        Story text = Story.plain("abcde").then(x -> x.setBookmark(0, 1, 3));
        int[][] due = {{2, 4}, {2, 4}, {1, 4}, {1, 4}, {1, 3}, {1, 3}};
        for (int k = 0; k < due.length; k++) {
            int place = k;
            bookmarkIs("36: written at " + k, text.then(x -> x.insert(0, place, 'x')), due[k][0], due[k][1]);
        }
        bookmarkIs("36: what was written is refused", text.then(x -> x.insert(0, 1, 'x')).then(x -> x.refuse(0)), 1, 3);
        Story empty = Story.plain("abc").then(x -> x.setBookmark(0, 1, 1));
        bookmarkIs("36: an empty one moves whole", empty.then(x -> x.insert(0, 1, 'x')), 2, 2);
        bookmarkIs("36: an empty one stays", empty.then(x -> x.insert(0, 2, 'x')), 1, 1);
        bookmarkIs("36: a field moves it, too", text.then(x -> x.addField(0, 0, 'c', 0)), 2, 4);
        bookmarkIs("36: also untracked", text.then(x -> x.setTracking(false)).then(x -> x.insert(0, 1, '/')), 2, 4);
    }

    private static void bookmarkOfUnitsThatGo() {
        Story text = Story.plain("abcde").then(x -> x.setBookmark(0, 1, 3)).then(x -> x.setTracking(false));
        int[][] one = {{0, 2}, {1, 2}, {1, 2}, {1, 3}, {1, 3}};
        for (int k = 0; k < one.length; k++) {
            int place = k;
            bookmarkIs("36: unit " + k + " is gone", text.then(x -> x.erase(0, place, place + 1)), one[k][0], one[k][1]);
        }
        bookmarkIs("36: all of it is gone", text.then(x -> x.erase(0, 1, 3)), 1, 1);
        bookmarkIs("36: it and the next one are gone", text.then(x -> x.erase(0, 1, 4)), 1, 1);
        bookmarkIs("36: all behind its begin", text.then(x -> x.erase(0, 1, 5)), 1, 1);
        bookmarkIs("36: all behind its end", text.then(x -> x.erase(0, 3, 5)), 1, 3);
        bookmarkIs("36: all", text.then(x -> x.erase(0, 0, 5)), 0, 0);
        bookmarkIs("36: all undone", text.then(x -> x.erase(0, 0, 5)).then(x -> x.undo()), 1, 3);
        Story next = text.then(x -> x.erase(0, 1, 2)).then(x -> x.insert(0, 1, 'x'));
        bookmarkIs("36: it keeps to the next one then", next, 2, 3);
        Story last = text.then(x -> x.erase(0, 1, 5)).then(x -> x.insert(0, 1, 'x'));
        bookmarkIs("36: or to the last end", last, 2, 2);
        Story refused = Story.plain("ab").then(x -> x.insert(0, 1, 'x')).then(x -> x.setBookmark(0, 1, 2));
        bookmarkIs("36: the unit is refused", refused.then(x -> x.refuse(0)), 1, 1);
        Story accepted = Story.plain("abc").then(x -> x.setBookmark(0, 1, 2)).then(x -> x.erase(0, 1, 2));
        bookmarkIs("36: its erasing is accepted", accepted.then(x -> x.accept(0)), 1, 1);
    }

    private static void bookmarkOfUnitsNotSeen() {
        Story text = Story.plain("abcde").then(x -> x.setBookmark(0, 1, 3));
        int[][] one = {{0, 2}, {1, 2}, {1, 2}, {1, 3}, {1, 3}};
        for (int k = 0; k < one.length; k++) {
            int place = k;
            Story erased = text.then(x -> x.erase(0, place, place + 1));
            bookmarkIs("36: unit " + k + " is not seen", erased, one[k][0], one[k][1]);
            bookmarkIs("36: seen again", erased.then(x -> x.refuse(0)), 1, 3);
        }
        Story all = text.then(x -> x.erase(0, 0, 5));
        bookmarkIs("36: none is seen", all, 0, 0);
        bookmarkIs("36: seen again", all.then(x -> x.refuse(0)), 1, 3);
        Story hidden = text.then(x -> x.erase(0, 1, 3));
        Story between = hidden.then(x -> x.insert(1, 1, 'x'));
        bookmarkIs("36: what is written behind units that are not seen is seen next", between, 1, 2);
        bookmarkIs("36: its end keeps to the unit ahead of which it is", between.then(x -> x.refuse(0)), 1, 4);
        Story kept = text.then(x -> x.erase(0, 2, 3)).then(x -> x.setTracking(false)).then(x -> x.erase(0, 1, 2));
        bookmarkIs("36: to the next one that is there, seen or not", kept.then(x -> x.refuse(0)), 1, 2);
    }

    private static void bookmarkOfTheLastEnd() {
        Story text = Story.plain("ab").then(x -> x.setBookmark(0, 2, 2));
        bookmarkIs("36: written at the last place", text.then(x -> x.insert(0, 2, 'x')), 3, 3);
        bookmarkIs("36: an end at the last place", text.then(x -> x.insert(0, 2, '/')), 3, 3);
        bookmarkIs("36: erased ahead of it", text.then(x -> x.erase(0, 0, 2)), 0, 0);
        Story whole = Story.plain("ab").then(x -> x.setBookmark(0, 0, 2)).then(x -> x.insert(0, 2, 'x'));
        bookmarkIs("36: its end keeps to the last end", whole, 0, 3);
    }

    private static void fieldNumbers() {
        Story two = EMPTY.times(2, x -> x.addField(0, 0, 'c', 0));
        for (int wrong : new int[] {-1, 2, 20, LEAST, MOST}) {
            two.outOfBounds("39: field " + wrong, x -> x.lock(wrong, true));
            two.outOfBounds("40: field " + wrong, x -> x.result(wrong));
        }
        EMPTY.outOfBounds("39: there is none", x -> x.lock(0, true));
        EMPTY.outOfBounds("40: there is none", x -> x.result(0));
        Story full = EMPTY.times(20, x -> x.addField(0, 0, 'c', 0));
        full.answers("39: the last of 20", false, x -> x.lock(19, true));
        full.answers("40: the last of 20", 0, x -> x.result(19));
        full.outOfBounds("39: one more", x -> x.lock(20, true));
        full.outOfBounds("40: one more", x -> x.result(20));
        full.then(x -> x.update()).answers("40: the last of 20 is found", 1, x -> x.result(19));
    }

    private static void lock() {
        Story field = EMPTY.then(x -> x.addField(0, 0, 'c', 0)).then(x -> x.addField(0, 0, 'c', 0));
        field.answers("39: it was not", false, x -> x.lock(0, true));
        field.answers("39: it was not", false, x -> x.lock(0, false));
        Story locked = field.then(x -> x.lock(0, true));
        locked.answers("39: it was", true, x -> x.lock(0, true));
        locked.answers("39: it was", true, x -> x.lock(0, false));
        locked.answers("39: the other one was not", false, x -> x.lock(1, false));
        locked.then(x -> x.lock(0, true)).answers("39: twice", true, x -> x.lock(0, true));
        locked.then(x -> x.lock(0, false)).answers("39: ended", false, x -> x.lock(0, true));
        locked.then(x -> x.undo()).answers("39: it is not undone", true, x -> x.lock(0, true));
        locked.then(x -> x.refuse(0)).answers("39: also if it is gone", true, x -> x.lock(0, false));
        locked.then(x -> x.update()).answers("41: a locked one is left", 0, x -> x.result(0));
        locked.then(x -> x.update()).answers("41: the other one is not", 1, x -> x.result(1));
        Story ended = locked.then(x -> x.update()).then(x -> x.lock(0, false));
        ended.answers("41: ended, it is found", 1, x -> x.update());
        Story found = field.then(x -> x.update()).then(x -> x.lock(0, true)).then(x -> x.insert(0, 0, '/'));
        found.answers("41: the one that is not locked moves", 1, x -> x.update());
        found.then(x -> x.update()).answers("41: a locked one keeps what it had", 1, x -> x.result(0));
        found.then(x -> x.lock(1, true)).answers("41: all are locked", 0, x -> x.update());
    }

    private static void resultsAtFirst() {
        Story text = Story.plain("a/b").then(x -> x.setBookmark(0, 1, 3)).then(x -> x.setRecord(0, 0, 7));
        for (char kind : new char[] {'n', 'p', 'l', 'c', 'r'}) {
            text.then(x -> x.addField(0, 0, kind, 0)).answers("40: 0 at first, " + kind, 0, x -> x.result(0));
        }
        for (char kind : new char[] {'n', 'p', 'l'}) {
            Story never = text.then(x -> x.setList(0, 0, 0)).then(x -> x.addField(0, 0, kind, 5));
            never.answers("41: a bookmark that was never set gives 0, " + kind, 0, x -> x.update());
            never.then(x -> x.setBookmark(5, 1, 2)).answers("41: set, it gives more", 1, x -> x.update());
            Story undone = never.then(x -> x.setBookmark(5, 1, 2)).then(x -> x.undo());
            undone.answers("41: undone, it was never set", 0, x -> x.update());
        }
        Story field = text.then(x -> x.addField(0, 0, 'c', 0));
        Story undone = field.then(x -> x.update()).then(x -> x.undo());
        undone.answers("8: the result is as it was ahead of the edit", 0, x -> x.result(0));
        Story kept = field.then(x -> x.update()).then(x -> x.insert(0, 0, '/')).then(x -> x.update());
        kept.answers("41: found", 3, x -> x.result(0));
        kept.then(x -> x.undo()).answers("8: as it was ahead of the edit", 2, x -> x.result(0));
        kept.answers("8: update is no edit", 5, x -> x.undo());
    }

    private static int resultOf(Story story) {
        SealOffice x = story.office();
        x.update();
        return x.result(0);
    }

    private static void numberField() {
        Story text = Story.plain("a/b/c").then(x -> x.setList(0, 1, 1)).then(x -> x.setList(1, 1, 1)).then(x -> x.restart(1, 99))
                .then(x -> x.setBookmark(0, 0, 5)).then(x -> x.setBookmark(1, 2, 2)).then(x -> x.setBookmark(2, 3, 5))
                .then(x -> x.setBookmark(3, 4, 4));
        int[] due = {1, 99, 99, 0};
        for (int k = 0; k < due.length; k++) {
            int bookmark = k;
            Check.due("40: number of bookmark " + k, resultOf(text.then(x -> x.addField(0, 5, 'n', bookmark))), due[k]);
        }
        Story lower = Story.plain("/").then(x -> x.setList(0, 0, 0)).then(x -> x.setList(1, 0, 2)).then(x -> x.restart(0, 5))
                .then(x -> x.setBookmark(0, 1, 1));
        Check.due("40: the number at its own level", resultOf(lower.then(x -> x.addField(0, 1, 'n', 0))), 1);
    }

    private static void pageField() {
        Story text = Story.plain("a/b/cdefgh/").then(x -> x.setPage(5, 2));
        int[] due = {1, 1, 1, 1, 2, 2, 2, 2, 2, 2, 2, 3};
        for (int k = 0; k < due.length; k++) {
            int place = k;
            Story marked = text.then(x -> x.setBookmark(0, place, 11)).then(x -> x.addField(0, 11, 'p', 0));
            Check.due("40: page of place " + k, resultOf(marked), due[k]);
        }
        Check.due("40: the only page", resultOf(EMPTY.then(x -> x.setBookmark(0, 0, 0)).then(x -> x.addField(0, 0, 'p', 0))), 1);
        Story inside = Story.plain("aaaaaaaaaabb").then(x -> x.setPage(5, 2)).then(x -> x.setBookmark(0, 11, 12))
                .then(x -> x.addField(0, 12, 'p', 0));
        Check.due("40: that of the bookmark, not that on which its paragraph begins", resultOf(inside), 2);
    }

    private static void lengthField() {
        Story text = Story.plain("abcde").then(x -> x.setBookmark(0, 1, 4)).then(x -> x.setBookmark(1, 2, 2))
                .then(x -> x.setBookmark(2, 0, 5));
        int[] due = {3, 0, 5};
        for (int k = 0; k < due.length; k++) {
            int bookmark = k;
            Story field = text.then(x -> x.addField(0, 5, 'l', bookmark));
            Check.due("40: units of bookmark " + k, resultOf(field), bookmark == 2 ? 6 : due[k]);
        }
        Story field = text.then(x -> x.addField(0, 0, 'l', 0));
        Check.due("40: only what is seen", resultOf(field.then(x -> x.erase(1, 3, 4))), 2);
        Check.due("40: none is seen", resultOf(field.then(x -> x.erase(1, 2, 5))), 0);
        Check.due("40: with what was written", resultOf(field.then(x -> x.insert(1, 3, 'x'))), 4);
        Check.due("40: an end is one, too", resultOf(field.then(x -> x.insert(1, 5, '/'))), 4);
    }

    private static void paragraphsField() {
        Story field = EMPTY.then(x -> x.addField(0, 0, 'c', 77));
        Check.due("40: the only one", resultOf(field), 1);
        Check.due("40: two", resultOf(field.then(x -> x.insert(0, 0, '/'))), 2);
        Check.due("40: only what is seen",
                resultOf(field.then(x -> x.insert(0, 0, '/')).then(x -> x.erase(1, 0, 1))), 1);
        Check.due("40: 200", resultOf(field.then(x -> x.setTracking(false)).times(199, x -> x.insert(0, 0, '/'))), 200);
    }

    private static void recordField() {
        for (int k = 0; k < 15; k++) {
            int at = k;
            Story field = EMPTY.then(x -> x.addField(0, 0, 'r', at % 3)).then(x -> x.setRecord(at / 3, at % 3, 9999));
            for (int m = 0; m < 5; m++) {
                int record = m;
                Check.due("40: record " + m, resultOf(field.then(x -> x.choose(record))), m == k / 3 ? 9999 : 0);
            }
        }
        Story none = EMPTY.then(x -> x.addField(0, 0, 'r', 2));
        Check.due("40: a value of 0", resultOf(none), 0);
        none.answers("41: which changes nothing", 0, x -> x.update());
        Story back = none.then(x -> x.setRecord(0, 2, 5)).then(x -> x.update()).then(x -> x.setRecord(0, 2, 0));
        back.answers("41: to 0 is a change", 1, x -> x.update());
    }

    private static void fieldsThatAreLeft() {
        EMPTY.answers("41: there is no field", 0, x -> x.update());
        Story field = EMPTY.then(x -> x.addField(0, 0, 'c', 0)).then(x -> x.accept(0));
        field.answers("41: one", 1, x -> x.update());
        field.then(x -> x.erase(1, 0, 1)).answers("41: one that waits to go is found", 1, x -> x.update());
        Story gone = field.then(x -> x.erase(1, 0, 1)).then(x -> x.accept(1));
        gone.answers("41: one that is gone is left", 0, x -> x.update());
        gone.answers("40: it has a result all the same", 0, x -> x.result(0));
        Story had = field.then(x -> x.update()).then(x -> x.erase(1, 0, 1)).then(x -> x.accept(1))
                .then(x -> x.insert(1, 0, '/')).then(x -> x.update());
        had.answers("40: that which it had", 1, x -> x.result(0));
        Story undone = field.then(x -> x.undo()).then(x -> x.undo());
        undone.answers("41: one whose writing was undone is left", 0, x -> x.update());
        undone.then(x -> x.redo()).answers("41: done again, it is found", 1, x -> x.update());
        Story off = field.then(x -> x.setTracking(false)).then(x -> x.erase(0, 0, 1));
        off.answers("41: erased untracked, it is gone", 0, x -> x.update());
        Story refused = EMPTY.then(x -> x.addField(0, 0, 'c', 0)).then(x -> x.refuse(0));
        refused.answers("41: refused, it is gone", 0, x -> x.update());
    }

    // A longer value of the record pushes a bookmark to page 10, whose longer number pushes another one to page 11.
    private static Story pushing() {
        return Story.plain("/".repeat(16) + "aaaa/aaaa/").then(x -> x.setTracking(false)).then(x -> x.setPage(5, 2))
                .then(x -> x.setBookmark(0, 21, 21)).then(x -> x.setBookmark(1, 26, 26))
                .then(x -> x.addField(0, 26, 'p', 1)).then(x -> x.addField(0, 22, 'p', 0))
                .then(x -> x.addField(0, 17, 'r', 0)).then(x -> x.setRecord(0, 0, 5));
    }

    private static void rounds() {
        Story text = pushing();
        text.answers("41: one round finds all", 1, x -> x.update());
        Story found = text.then(x -> x.update());
        found.answers("41: none moves then", 0, x -> x.update());
        found.answers("40: ahead of the digit", 9, x -> x.result(1));
        found.answers("40: the page behind it", 10, x -> x.result(0));
        found.then(x -> x.setRecord(0, 0, 9)).answers("41: one round, the same digits", 1, x -> x.update());
        Story longer = found.then(x -> x.setRecord(0, 0, 10));
        longer.answers("41: one result moves the next one, round by round", 3, x -> x.update());
        longer.then(x -> x.update()).answers("40: the record", 10, x -> x.result(2));
        longer.then(x -> x.update()).answers("40: moved by it", 10, x -> x.result(1));
        longer.then(x -> x.update()).answers("40: moved by that", 11, x -> x.result(0));
        longer.then(x -> x.update()).answers("41: nothing moves then", 0, x -> x.update());
        Story locked = longer.then(x -> x.lock(1, true));
        locked.answers("41: a locked one moves nothing", 1, x -> x.update());
        Story back = longer.then(x -> x.update()).then(x -> x.setRecord(0, 0, 5));
        back.answers("41: back, both pages move in the same round", 2, x -> x.update());
        back.then(x -> x.update()).answers("40: as at first", 9, x -> x.result(1));
    }

    // Kept together, two lines go to a tenth page; its two digits make three lines of them, which are left: so it turns.
    private static Story turning() {
        return Story.plain("/".repeat(17) + "aaaa/").then(x -> x.setTracking(false)).then(x -> x.setPage(5, 2))
                .then(x -> x.addStyle(-1, false, 1)).then(x -> x.setStyle(0, 17, 1)).then(x -> x.setBookmark(0, 17, 17))
                .then(x -> x.addField(0, 17, 'p', 0));
    }

    private static void mostRounds() {
        Story text = turning();
        text.answers("41: at most 10 times", 10, x -> x.update());
        text.then(x -> x.update()).answers("40: as the 10th round found it", 9, x -> x.result(0));
        text.then(x -> x.update()).answers("41: again", 10, x -> x.update());
        text.times(2, x -> x.update()).answers("40: as the 20th round found it", 9, x -> x.result(0));
        Story nine = text.then(x -> x.lock(0, true));
        nine.answers("41: locked, it does not turn", 0, x -> x.update());
        nine.answers("40: it is as it was", 0, x -> x.result(0));
        text.answers("44: nor does merging go on without an end", 5 * 10, x -> x.merge(0, 1));
        text.then(x -> x.merge(0, 1)).answers("44: the result is as before", 0, x -> x.result(0));
    }
}
