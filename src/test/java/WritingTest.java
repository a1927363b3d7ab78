import java.util.NoSuchElementException;

/** Promises 1 to 9: a new object, and writing. */
public final class WritingTest {
    private static final Class<IndexOutOfBoundsException> BOUNDS = IndexOutOfBoundsException.class;
    private static final Class<IllegalArgumentException> ARGUMENT = IllegalArgumentException.class;
    private static final Class<IllegalStateException> STATE = IllegalStateException.class;
    private static final Class<UnsupportedOperationException> UNSUPPORTED = UnsupportedOperationException.class;
    private static final Class<NoSuchElementException> NONE = NoSuchElementException.class;

    public static void main(String[] args) {
        newObject();
        tracking();
        insertAnswersItsChange();
        insertKeepsBehindErasedUnits();
        insertRefuses();
        insertAtTheLimits();
        newEndsTakeWhatTheirParagraphHas();
        addField();
        addFieldRefuses();
        eraseTracked();
        eraseUntracked();
        eraseRefuses();
        setStyleTracked();
        setStyleUntracked();
        setStyleRefuses();
        protect();
        undoAndRedo();
        undoGivesAllBack();
        undoKeepsTheRest();
        whatIsAnEdit();
        Check.end();
    }

    private static void newObject() {
        SealOffice x = new SealOffice();
        Check.due("1: length", x.length(), 0);
        Check.due("1: oldLength", x.oldLength(), 0);
        Check.due("1: paragraphs", x.paragraphs(), 1);
        Check.due("1: changes", x.changes(), 0);
        Check.due("1: styleOf", x.styleOf(0), 0);
        Check.due("1: isBold", x.isBold(0), false);
        Check.due("1: numberOf", x.numberOf(0), 0);
        Check.due("1: pages", x.pages(), 1);
        Check.due("1: setPage", x.setPage(5, 2), 2008);
        Check.due("1: choose", x.choose(1), 0);
        Check.due("1: setRecord", x.setRecord(4, 2, 7), 0);
        Check.due("1: setKind", x.setKind(2, 2, 'r'), 'd');
        Check.due("1: setLegal", x.setLegal(2, true), false);
        Check.due("1: protect", x.protect(0, false), false);
        Check.due("1: setList", x.setList(0, 0, 0), -1);
        Check.due("1: restart", x.restart(0, 4), 0);
        Check.fails("1: lineAt", BOUNDS, () -> x.lineAt(0));
    }

    private static void tracking() {
        SealOffice x = new SealOffice();
        Check.due("2: tracked at first", x.setTracking(true), true);
        Check.due("2: still", x.setTracking(false), true);
        Check.due("2: not any more", x.setTracking(false), false);
        Check.due("2: no change then", x.insert(0, 0, 'a'), -1);
        Check.due("2: again", x.setTracking(true), false);
        Check.due("2: a change then", x.insert(0, 1, 'a'), 0);
        x.undo();
        Check.due("2: undoing leaves it", x.setTracking(false), true);
    }

    private static void insertAnswersItsChange() {
        SealOffice x = new SealOffice();
        Check.due("3: first", x.insert(0, 0, 'a'), 0);
        Check.due("3: behind it", x.insert(0, 1, 'z'), 0);
        Check.due("3: ahead of it", x.insert(0, 0, ' '), 1);
        Check.due("3: by another one", x.insert(3, 2, '/'), 2);
        Check.due("3: behind another one's", x.insert(0, 3, 'q'), 3);
        Check.due("3: text", Check.text(x), " a/qz");
        x.accept(1);
        Check.due("3: behind what waits no more", x.insert(0, 1, 'w'), 4);
        x.setTracking(false);
        Check.due("3: untracked", x.insert(1, 1, 'v'), -1);
        x.setTracking(true);
        Check.due("3: behind what has no change", x.insert(0, 2, 'u'), 5);
        Check.due("3: text then", Check.text(x), " vuwa/qz");
    }

    private static void insertKeepsBehindErasedUnits() {
        SealOffice x = Check.plain("abc");
        x.insert(1, 1, 'x');
        x.erase(2, 1, 3);
        Check.due("3: seen", Check.text(x), "ac");
        Check.due("3: the unit ahead in the whole row is b", x.insert(1, 1, 'y'), 2);
        x.refuse(1);
        Check.due("3: it stands directly ahead of c", Check.text(x), "axbyc");
        SealOffice y = Check.plain("a");
        y.insert(1, 1, 'x');
        y.erase(2, 1, 2);
        Check.due("3: it joins the change of an erased unit", y.insert(1, 1, 'y'), 0);
        y.refuse(1);
        Check.due("3: behind it", Check.text(y), "axy");
    }

    private static void insertRefuses() {
        SealOffice x = Check.plain("ab/c");
        x.protect(0, true);
        Check.fails("3: author -1", BOUNDS, () -> x.insert(-1, 0, 'A'));
        Check.fails("3: author 4", BOUNDS, () -> x.insert(4, 0, 'a'));
        Check.fails("3: place -1", BOUNDS, () -> x.insert(0, -1, 'A'));
        Check.fails("3: place 5", BOUNDS, () -> x.insert(0, 5, 'a'));
        Check.fails("3: letter A", ARGUMENT, () -> x.insert(0, 0, 'A'));
        Check.fails("3: letter @", ARGUMENT, () -> x.insert(0, 4, '@'));
        Check.fails("3: letter `", ARGUMENT, () -> x.insert(0, 4, '`'));
        Check.fails("3: letter {", ARGUMENT, () -> x.insert(0, 4, '{'));
        Check.fails("3: letter .", ARGUMENT, () -> x.insert(0, 4, '.'));
        Check.fails("3: protected", UNSUPPORTED, () -> x.insert(0, 0, 'a'));
        Check.fails("3: protected, ahead of its end", UNSUPPORTED, () -> x.insert(0, 2, '/'));
        Check.due("3: the next one is not", x.insert(0, 3, 'a'), 0);
    }

    private static void insertAtTheLimits() {
        SealOffice x = Check.plain("a".repeat(199));
        Check.due("3: the 200th unit", x.insert(0, 199, 'b'), 0);
        x.protect(0, true);
        Check.fails("3: no room, ahead of protection", STATE, () -> x.insert(0, 0, 'a'));
        Check.fails("4: no room", STATE, () -> x.addField(0, 0, 'c', 0));
        Check.fails("3: a wrong letter goes ahead", ARGUMENT, () -> x.insert(0, 0, '!'));
        x.protect(0, false);
        x.erase(1, 0, 100);
        Check.due("3: seen", x.length(), 100);
        Check.fails("3: erased units count", STATE, () -> x.insert(0, 0, 'a'));
        x.accept(1);
        Check.due("3: room again", x.insert(0, 0, 'a'), 2);

        SealOffice y = fullOfChanges();
        Check.fails("3: 60 changes", STATE, () -> y.insert(2, 60, 'a'));
        Check.fails("4: 60 changes", STATE, () -> y.addField(2, 60, 'c', 0));
        Check.due("3: into one that is there", y.insert(1, 60, 'a'), 59);
        y.protect(0, true);
        Check.fails("3: 60 changes go ahead of protection", STATE, () -> y.insert(2, 0, 'a'));
        Check.fails("3: without a new one it is protection", UNSUPPORTED, () -> y.insert(0, 1, 'a'));
        y.protect(0, false);
        y.judge(-1, true);
        Check.fails("3: judged ones count", STATE, () -> y.insert(1, 1, 'a'));
        y.setTracking(false);
        Check.due("3: untracked", y.insert(1, 1, 'a'), -1);
    }

    // 60 letters, each of another change than the one ahead.
    private static SealOffice fullOfChanges() {
        SealOffice x = new SealOffice();
        for (int k = 0; k < 60; k++) {
            Check.due("3: change", x.insert(k % 2, k, 'a'), k);
        }
        return x;
    }

    private static void newEndsTakeWhatTheirParagraphHas() {
        SealOffice x = Check.plain("ab/c");
        x.addStyle(0, true, -1);
        x.setStyle(0, 0, 1);
        x.setList(0, 1, 2);
        x.restart(0, 7);
        x.insert(0, 1, '/');
        Check.due("3: text", Check.text(x), "a/b/c");
        Check.due("3: style", x.styleOf(0), 1);
        Check.due("3: its number has no restart", x.numberOf(0), 1);
        Check.due("3: the other keeps it", x.numberOf(1), 7);
        Check.due("3: level", Check.number(x, 0), "1.1.1");
        Check.due("3: the change of the style stays with the old end", x.refuse(0), 1);
        Check.due("3: the new one has its style", x.styleOf(0), 1);
        Check.due("3: the old one that which was kept", x.styleOf(1), 0);
        Check.due("3: list", x.setList(0, -1, 0), 1);
        x.setTracking(false);
        x.erase(0, 1, 2);
        Check.due("joined: it has what the next one has", x.numberOf(0), 7);
        Check.due("joined: style", x.styleOf(0), 0);
        x.erase(0, 2, 3);
        Check.due("joined with the last one", x.numberOf(0), 0);
        Check.due("joined: text", Check.text(x), "abc");
    }

    private static void addField() {
        SealOffice x = Check.plain("ab");
        Check.due("4: first", x.addField(1, 1, 'c', -77), 0);
        Check.due("4: its change", x.changeAt(1), 0);
        Check.due("4: second", x.addField(1, 2, 'r', 2), 1);
        Check.due("4: the same change", x.changes(), 1);
        Check.due("4: text", Check.text(x), "a@@b");
        Check.due("4: result", x.result(1), 0);
        x.undo();
        Check.due("4: an undone one counts", x.addField(0, 0, 'n', 5), 2);
        x.refuse(x.changeAt(0));
        Check.due("4: one that is gone counts", x.addField(0, 0, 'p', 0), 3);
        Check.due("4: insert behind a field joins its change", x.insert(0, 1, 'q'), x.changeAt(0));
        for (int k = 4; k < 20; k++) {
            Check.due("4: field", x.addField(0, 0, 'l', 1), k);
        }
        Check.fails("4: 20 fields", STATE, () -> x.addField(0, 0, 'l', 1));
        x.undo();
        Check.fails("4: 20 fields, one undone", STATE, () -> x.addField(0, 0, 'l', 1));
        x.protect(0, true);
        Check.fails("4: ahead of protection", STATE, () -> x.addField(0, 0, 'l', 1));
        Check.fails("4: behind a wrong kind", ARGUMENT, () -> x.addField(0, 0, 'x', 1));
    }

    private static void addFieldRefuses() {
        SealOffice x = Check.plain("ab/");
        x.protect(1, true);
        Check.fails("4: author", BOUNDS, () -> x.addField(4, 0, 'c', 0));
        Check.fails("4: author -1 goes ahead of the kind", BOUNDS, () -> x.addField(-1, 0, 'x', 0));
        Check.fails("4: place", BOUNDS, () -> x.addField(0, 4, 'c', 0));
        Check.fails("4: place -1", BOUNDS, () -> x.addField(0, -1, 'x', 0));
        Check.fails("4: kind", ARGUMENT, () -> x.addField(0, 3, 'd', 0));
        for (char kind : new char[] {'n', 'p', 'l'}) {
            Check.fails("4: bookmark 6", ARGUMENT, () -> x.addField(0, 0, kind, 6));
            Check.fails("4: bookmark -1", ARGUMENT, () -> x.addField(0, 3, kind, -1));
        }
        Check.fails("4: column 3", ARGUMENT, () -> x.addField(0, 0, 'r', 3));
        Check.fails("4: column -1", ARGUMENT, () -> x.addField(0, 0, 'r', -1));
        Check.fails("4: protected", UNSUPPORTED, () -> x.addField(0, 3, 'c', 0));
        Check.due("4: not protected", x.addField(0, 2, 'c', 100), 0);
    }

    private static void eraseTracked() {
        SealOffice x = Check.plain("abc");
        Check.type(x, 1, 1, "xy");
        Check.type(x, 2, 2, "z");
        Check.due("5: others", x.erase(1, 0, 5), 2);
        Check.due("5: own ones are gone", Check.text(x), "c");
        Check.due("5: their change waits", x.stateOf(0), 'w');
        Check.due("5: without units", x.unitsOf(0), 0);
        Check.due("5: the others", x.unitsOf(2), 3);
        Check.due("5: kind", x.kindOf(2), 'e');
        Check.due("5: old text", Check.old(x), "abc");
        x.refuse(2);
        Check.due("5: there again", Check.text(x), "azbc");
        Check.type(x, 3, 0, "pq");
        Check.due("5: only own ones", x.erase(3, 0, 2), -1);
        Check.due("5: no new change", x.changes(), 4);
        Check.due("5: what is erased already stays with its change", x.erase(0, 1, 3), 4);
        Check.due("5: around it", x.erase(3, 0, 2), 5);
        Check.due("5: two", x.unitsOf(5), 2);
        Check.due("5: two of before", x.unitsOf(4), 2);
        Check.due("5: all erased", x.length(), 0);
        Check.due("5: one paragraph", x.paragraphs(), 1);
    }

    private static void eraseUntracked() {
        SealOffice x = Check.plain("ab/cd");
        x.erase(0, 0, 1);
        x.setTracking(false);
        Check.due("5: untracked", x.erase(0, 0, 3), -1);
        Check.due("5: text", Check.text(x), "d");
        Check.due("5: from the first place", Check.plain("a").erase(0, 0, 1), 0);
        Check.due("5: what another one erased is there", Check.old(x), "ad");
        Check.due("5: units", x.unitsOf(0), 1);
        Check.due("5: the rest", x.erase(2, 0, 1), -1);
        Check.due("5: old text", Check.old(x), "a");
    }

    private static void eraseRefuses() {
        SealOffice x = Check.plain("ab/cd/ef");
        x.protect(1, true);
        Check.fails("5: author", BOUNDS, () -> x.erase(4, 1, 1));
        Check.fails("5: from", BOUNDS, () -> x.erase(0, -1, 1));
        Check.fails("5: to", BOUNDS, () -> x.erase(0, 3, 9));
        Check.fails("5: from behind all", BOUNDS, () -> x.erase(0, 9, 1));
        Check.fails("5: empty", ARGUMENT, () -> x.erase(0, 4, 4));
        Check.fails("5: less than empty", ARGUMENT, () -> x.erase(0, 2, 1));
        Check.fails("5: in a protected one", UNSUPPORTED, () -> x.erase(0, 3, 4));
        Check.fails("5: from a protected one", UNSUPPORTED, () -> x.erase(0, 5, 7));
        Check.fails("5: to the begin of a protected one", UNSUPPORTED, () -> x.erase(0, 2, 3));
        Check.fails("5: over a protected one", UNSUPPORTED, () -> x.erase(0, 0, 8));
        Check.due("5: up to the end ahead of it", x.erase(0, 0, 2), 0);
        Check.due("5: from the begin behind it", x.erase(0, 4, 6), 1);

        SealOffice y = fullOfChanges();
        Check.fails("5: 60 changes", STATE, () -> y.erase(0, 0, 2));
        Check.due("5: own ones need none", y.erase(0, 0, 1), -1);
        y.protect(0, true);
        Check.fails("5: ahead of protection", STATE, () -> y.erase(0, 0, 2));
        Check.fails("5: then protection", UNSUPPORTED, () -> y.erase(1, 0, 1));
        y.setTracking(false);
        Check.fails("5: untracked needs none", UNSUPPORTED, () -> y.erase(0, 0, 2));
    }

    private static void setStyleTracked() {
        SealOffice x = Check.plain("a/b");
        x.addStyle(0, true, -1);
        x.addStyle(-1, false, 1);
        Check.due("6: new", x.setStyle(2, 0, 1), 0);
        Check.due("6: kind", x.kindOf(0), 's');
        Check.due("6: author", x.authorOf(0), 2);
        Check.due("6: the one that waits", x.setStyle(3, 0, 2), 0);
        Check.due("6: set", x.styleOf(0), 2);
        Check.due("6: the last end", x.setStyle(1, 1, 0), 1);
        Check.due("6: refused", x.refuse(0), 1);
        Check.due("6: also what another one set", x.styleOf(0), 0);
        Check.due("6: the last end refused", x.refuse(1), 1);
        Check.due("6: the last end may have a new one", x.setStyle(1, 1, 1), 2);
        Check.due("6: set there", x.styleOf(1), 1);
        Check.due("6: refused there", x.refuse(2), 1);
        Check.due("6: kept there", x.styleOf(1), 0);
        Check.due("6: a new one then", x.setStyle(3, 0, 2), 3);
        Check.due("6: accepted", x.accept(3), 1);
        Check.due("6: stays", x.styleOf(0), 2);
        Check.due("6: the other one", x.setStyle(0, 0, 1), 4);
        x.refuse(4);
        Check.due("6: kept", x.styleOf(0), 2);
    }

    private static void setStyleUntracked() {
        SealOffice x = Check.plain("a/b");
        x.addStyle(0, true, -1);
        x.addStyle(-1, false, 1);
        x.setStyle(2, 0, 1);
        x.setTracking(false);
        Check.due("6: untracked", x.setStyle(0, 0, 2), -1);
        Check.due("6: set", x.styleOf(0), 2);
        Check.due("6: accepted", x.stateOf(0), 'a');
        Check.due("6: concerns none", x.unitsOf(0), 0);
        Check.due("6: without a change", x.setStyle(0, 1, 1), -1);
        Check.due("6: set there", x.styleOf(1), 1);
        Check.due("6: changes", x.changes(), 1);
        x.undo();
        x.undo();
        Check.due("6: undone, it waits again", x.stateOf(0), 'w');
    }

    private static void setStyleRefuses() {
        SealOffice x = Check.plain("a/b");
        x.protect(0, true);
        Check.fails("6: author", BOUNDS, () -> x.setStyle(4, 1, 0));
        Check.fails("6: author -1", BOUNDS, () -> x.setStyle(-1, 0, 0));
        Check.fails("6: paragraph", BOUNDS, () -> x.setStyle(0, 2, 0));
        Check.fails("6: paragraph -1", BOUNDS, () -> x.setStyle(0, -1, 0));
        Check.fails("6: style", BOUNDS, () -> x.setStyle(0, 0, 1));
        Check.fails("6: style -1", BOUNDS, () -> x.setStyle(0, 0, -1));
        Check.fails("6: protected", UNSUPPORTED, () -> x.setStyle(0, 0, 0));
        SealOffice y = fullOfChanges();
        y.protect(0, true);
        Check.fails("6: 60 changes, ahead of protection", STATE, () -> y.setStyle(0, 0, 0));
        y.setTracking(false);
        Check.fails("6: untracked", UNSUPPORTED, () -> y.setStyle(0, 0, 0));
        SealOffice z = new SealOffice();
        z.setStyle(0, 0, 0);
        for (int k = 0; k < 59; k++) {
            z.insert(k % 2, k, 'a');
        }
        Check.due("6: 60 changes, but one waits here", z.setStyle(1, 0, 0), 0);
    }

    private static void protect() {
        SealOffice x = Check.plain("a/b");
        Check.due("7: was not", x.protect(1, true), false);
        Check.due("7: was", x.protect(1, true), true);
        Check.due("7: the other one was not", x.protect(0, false), false);
        Check.due("7: ended", x.protect(1, false), true);
        Check.due("7: writing again", x.insert(0, 3, 'c'), 0);
        Check.fails("7: paragraph", BOUNDS, () -> x.protect(2, true));
        Check.fails("7: paragraph -1", BOUNDS, () -> x.protect(-1, true));
        x.protect(1, true);
        x.undo();
        Check.due("7: undone", x.protect(1, false), false);
        x.protect(1, true);
        Check.due("7: judging goes on", x.refuse(0), 1);
    }

    private static void undoAndRedo() {
        SealOffice x = new SealOffice();
        Check.fails("8: none", NONE, () -> x.undo());
        Check.fails("9: none", NONE, () -> x.redo());
        Check.type(x, 0, 0, "abcdefgh");
        for (int left = 5; left >= 0; left--) {
            Check.due("8: left", x.undo(), left);
        }
        Check.fails("8: only six", NONE, () -> x.undo());
        Check.due("8: text", Check.text(x), "ab");
        for (int left = 5; left >= 2; left--) {
            Check.due("9: left", x.redo(), left);
        }
        Check.due("9: text", Check.text(x), "abcdef");
        Check.due("8: again", x.undo(), 3);
        Check.due("8: a new edit", x.insert(0, 0, 'x'), 1);
        Check.fails("9: a new edit ends it", NONE, () -> x.redo());
        Check.due("8: it", x.undo(), 3);
        Check.due("9: it", x.redo(), 0);
        Check.due("9: text then", Check.text(x), "xabcde");
        Check.fails("9: a refused call is no edit", BOUNDS, () -> x.insert(0, 99, 'a'));
        Check.due("8: so it can be undone", x.undo(), 3);
        Check.fails("9: throwing", ARGUMENT, () -> x.insert(0, 0, 'A'));
        Check.due("9: still there", x.redo(), 0);
    }

    private static void undoGivesAllBack() {
        Story ahead = Story.plain("ab/c").then(x -> x.addStyle(0, true, -1)).then(x -> x.insert(1, 0, 'x'))
                .then(x -> x.setBookmark(0, 1, 3)).then(x -> x.addField(1, 0, 'l', 0)).then(x -> x.update());
        String before = Check.all(ahead.office());
        Story behind = ahead.then(x -> x.erase(0, 0, 4)).then(x -> x.update());
        String after = Check.all(behind.office());
        Story undone = behind.then(x -> x.undo());
        Check.due("8: as before", Check.all(undone.office()), before);
        Check.due("9: as behind it", Check.all(undone.then(x -> x.redo()).office()), after);
        Story judged = behind.then(x -> x.judge(-1, false)).then(x -> x.undo());
        Check.due("8: judging", Check.all(judged.office()), after);
        Story styled = judged.then(x -> x.setStyle(0, 0, 1));
        styled.answers("8: as many changes", 4, x -> x.changes());
        styled.then(x -> x.undo()).answers("8: as before", 3, x -> x.changes());
        Check.due("8: results as before, too", Check.all(styled.times(2, x -> x.undo()).office()), before);
    }

    private static void undoKeepsTheRest() {
        SealOffice x = new SealOffice();
        x.addField(0, 0, 'c', 0);
        x.lock(0, true);
        x.setKind(0, 0, 'a');
        x.addStyle(0, true, 1);
        x.setPage(7, 3);
        x.choose(2);
        x.setRecord(1, 1, 5);
        x.undo();
        Check.due("8: lock", x.lock(0, false), true);
        Check.due("8: kind", x.setKind(0, 0, 'd'), 'a');
        Check.due("8: styles", x.addStyle(1, true, 0), 2);
        Check.due("8: page", x.setPage(8, 3), 703);
        Check.due("8: chosen", x.choose(0), 2);
        Check.due("8: record", x.setRecord(1, 1, 6), 5);
        Check.due("8: fields", x.addField(0, 0, 'c', 0), 1);
    }

    private static void whatIsAnEdit() {
        SealOffice x = Check.plain("a/b");
        x.addField(0, 0, 'c', 0);
        Check.due("edit: protect", edits(x, () -> x.protect(0, false)), true);
        Check.due("edit: setBookmark", edits(x, () -> x.setBookmark(0, 0, 0)), true);
        Check.due("edit: setList", edits(x, () -> x.setList(0, -1, 0)), true);
        Check.due("edit: restart", edits(x, () -> x.restart(0, 0)), true);
        Check.due("edit: judge", edits(x, () -> x.judge(3, true)), true);
        Check.due("edit: setStyle", edits(x, () -> x.setStyle(0, 0, 0)), true);
        Check.due("edit: insert", edits(x, () -> x.insert(0, 0, 'a')), true);
        Check.due("edit: addField", edits(x, () -> x.addField(0, 0, 'c', 0)), true);
        Check.due("edit: erase", edits(x, () -> x.erase(0, 0, 1)), true);
        Check.due("edit: accept", edits(x, () -> x.accept(0)), true);
        Check.due("edit: refuse", edits(x, () -> x.refuse(0)), true);
        Check.due("no edit: update", edits(x, () -> x.update()), false);
        Check.due("no edit: setTracking", edits(x, () -> x.setTracking(true)), false);
        Check.due("no edit: addStyle", edits(x, () -> x.addStyle(0, true, 1)), false);
        Check.due("no edit: lock", edits(x, () -> x.lock(0, true)), false);
        Check.due("no edit: setKind", edits(x, () -> x.setKind(0, 0, 'a')), false);
        Check.due("no edit: setLegal", edits(x, () -> x.setLegal(0, true)), false);
        Check.due("no edit: setPage", edits(x, () -> x.setPage(9, 9)), false);
        Check.due("no edit: choose", edits(x, () -> x.choose(1)), false);
        Check.due("no edit: setRecord", edits(x, () -> x.setRecord(0, 0, 1)), false);
        Check.due("no edit: merge", edits(x, () -> x.merge(0, 0)), false);
        Check.due("no edit: isSound", edits(x, () -> x.isSound()), false);
    }

    // Whether the call ends what can be done again; the edit ahead of it is undone, and done again, if it can be.
    private static boolean edits(SealOffice x, Check.Call call) {
        x.insert(3, 0, 'q');
        x.undo();
        call.run();
        try {
            x.redo();
        } catch (NoSuchElementException e) {
            x.undo();
            return true;
        }
        x.undo();
        return false;
    }
}
