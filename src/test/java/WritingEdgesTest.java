import java.util.List;
import java.util.function.Function;

/** Promises 1 to 9, and the terms units, writing and undoing: each sentence that names an edge. */
public final class WritingEdgesTest {
    private static final Story EMPTY = new Story();
    private static final String A200 = "a".repeat(200);
    private static final int LEAST = Integer.MIN_VALUE;
    private static final int MOST = Integer.MAX_VALUE;
    // An office with room for nothing more: neither a unit, nor a change, nor a field, and its paragraph is protected.
    private static final Story NO_ROOM = noRoom();

    public static void main(String[] args) {
        newObject();
        newObjectsStandApart();
        tracking();
        insertTakes();
        insertRefuses();
        insertLetters();
        insertAtMostUnits();
        insertAtMostChanges();
        insertOrder();
        addFieldTakes();
        addFieldRefuses();
        addFieldAtMost();
        addFieldOrder();
        addFieldNumbers();
        eraseTakes();
        eraseRefuses();
        eraseAtMostChanges();
        eraseOrder();
        eraseTouches();
        setStyleTakes();
        setStyleRefuses();
        setStyleAtMostChanges();
        setStyleOrder();
        protect();
        undo();
        redo();
        whatUndoGivesBack();
        whatIsAnEdit();
        mostCalls();
        Check.end();
    }

    private static Story noRoom() {
        Story story = Story.fullOfChanges();
        for (int k = 0; k < 20; k++) {
            story = story.then(x -> x.addField(1, 60, 'c', 0));
        }
        return story.type(1, 60, "a".repeat(120)).then(x -> x.protect(0, true));
    }

    private static void newObject() {
        EMPTY.answers("1: units", 0, x -> x.length());
        EMPTY.answers("1: one paragraph", 1, x -> x.paragraphs());
        EMPTY.answers("1: no change", 0, x -> x.changes());
        EMPTY.answers("1: it is tracked", true, x -> x.setTracking(true));
        EMPTY.answers("1: the only place", 0, x -> x.paragraphOf(0));
        EMPTY.answers("1: the begin", 0, x -> x.startOf(0));
        EMPTY.answers("1: one page", 1, x -> x.pages());
        EMPTY.answers("1: no fields that move", 0, x -> x.update());
        EMPTY.answers("1: the page", 2008, x -> x.setPage(20, 8));
        EMPTY.answers("1: the record", 0, x -> x.choose(4));
        EMPTY.answers("1: one style alone", 1, x -> x.addStyle(0, false, 0));
        EMPTY.answers("1: not protected", false, x -> x.protect(0, true));
        for (int k = 0; k < 15; k++) {
            int at = k;
            EMPTY.answers("42: 0 at first", 0, x -> x.setRecord(at / 3, at % 3, 9));
        }
        for (int k = 0; k < 9; k++) {
            int at = k;
            EMPTY.answers("31: 'd' at first", 'd', x -> x.setKind(at / 3, at % 3, 'a'));
        }
        for (int k = 0; k < 3; k++) {
            int list = k;
            EMPTY.answers("32: not legal at first", false, x -> x.setLegal(list, true));
        }
        for (int k = 0; k < 6; k++) {
            int bookmark = k;
            EMPTY.noElement("37: never set", x -> x.bookmarkFrom(bookmark));
            EMPTY.noElement("38: never set", x -> x.bookmarkTo(bookmark));
        }
    }

    private static void newObjectsStandApart() {
        SealOffice other = new SealOffice();
        SealOffice x = Story.plain("ab/c").then(y -> y.addStyle(0, true, 1)).then(y -> y.setKind(0, 0, 'r')).office();
        x.setTracking(false);
        x.setRecord(0, 0, 9);
        x.setPage(5, 2);
        Check.due("1: what is done to one is not done to another", other.length(), 0);
        Check.due("1: nor its styles", other.addStyle(0, true, 1), 1);
        Check.due("1: nor its kinds", other.setKind(0, 0, 'a'), 'd');
        Check.due("1: nor its records", other.setRecord(0, 0, 1), 0);
        Check.due("1: nor its pages", other.setPage(6, 3), 2008);
        Check.due("1: nor its tracking", other.setTracking(true), true);
    }

    private static void tracking() {
        EMPTY.answers("2: at first", true, x -> x.setTracking(false));
        Story off = EMPTY.then(x -> x.setTracking(false));
        off.answers("2: off", false, x -> x.setTracking(false));
        off.then(x -> x.setTracking(false)).answers("2: off, twice", false, x -> x.setTracking(true));
        off.then(x -> x.setTracking(true)).answers("2: on again", true, x -> x.setTracking(true));
        off.answers("2: what is written then has no change", -1, x -> x.insert(0, 0, 'a'));
        Story written = EMPTY.then(x -> x.insert(0, 0, 'a')).then(x -> x.setTracking(false));
        written.answers("2: what was written before still waits", 'w', x -> x.stateOf(0));
        written.answers("2: behind it, too, there is no change", -1, x -> x.insert(0, 1, 'b'));
        written.then(x -> x.undo()).answers("2: it is no part of what is undone", false, x -> x.setTracking(true));
        EMPTY.then(x -> x.insert(0, 0, 'a')).then(x -> x.undo()).then(x -> x.setTracking(false))
                .answers("2: it is no edit", 0, x -> x.redo());
    }

    private static void insertTakes() {
        Story text = Story.plain("ab/c");
        for (int author = 0; author < 4; author++) {
            int who = author;
            text.answers("3: author " + who, 0, x -> x.insert(who, 0, 'x'));
            text.then(x -> x.insert(who, 0, 'x')).answers("19: author " + who, who, x -> x.authorOf(0));
        }
        String[] written = {"xab/c", "axb/c", "abx/c", "ab/xc", "ab/cx"};
        for (int k = 0; k < written.length; k++) {
            int place = k;
            Story one = text.then(x -> x.insert(0, place, 'x'));
            Check.due("3: at place " + k, Check.text(one.office()), written[k]);
            one.answers("11: the unit behind the place", 'x', x -> x.unitAt(place));
        }
        EMPTY.answers("3: the only place of a new one", 0, x -> x.insert(0, 0, 'x'));
        Story behindErased = text.then(x -> x.erase(1, 1, 4));
        behindErased.answers("3: the last place, counted in units that are seen", 1, x -> x.insert(0, 1, 'x'));
        behindErased.outOfBounds("3: the one behind it", x -> x.insert(0, 2, 'x'));
        Story shown = behindErased.then(x -> x.insert(0, 1, 'x')).then(x -> x.refuse(0));
        Check.due("3: directly ahead of the last end", Check.text(shown.office()), "ab/cx");
        Story ahead = Story.plain("abc").then(x -> x.erase(1, 0, 2));
        Check.due("3: place 0 is directly ahead of the first unit that is seen",
                Check.text(ahead.then(x -> x.insert(0, 0, 'x')).then(x -> x.refuse(0)).office()), "abxc");
    }

    private static void insertRefuses() {
        Story text = Story.plain("ab/c").then(x -> x.insert(0, 1, 'q'));
        for (int author : new int[] {-1, 4, LEAST, MOST}) {
            text.outOfBounds("3: author " + author, x -> x.insert(author, 0, 'a'));
        }
        for (int place : new int[] {-1, 6, LEAST, MOST}) {
            text.outOfBounds("3: place " + place, x -> x.insert(0, place, 'a'));
        }
        EMPTY.outOfBounds("3: place 1 of a new one", x -> x.insert(0, 1, 'a'));
        EMPTY.outOfBounds("3: place -1 of a new one", x -> x.insert(0, -1, 'a'));
        text.then(x -> x.undo()).outOfBounds("3: the last place of before", x -> x.insert(0, 5, 'a'));
        text.badArgument("3: a letter that is none", x -> x.insert(0, 0, '@'));
    }

    private static void insertLetters() {
        SealOffice x = new SealOffice();
        for (char letter = 'a'; letter <= 'z'; letter++) {
            Check.due("3: letter " + letter, x.insert(0, letter - 'a', letter), 0);
        }
        Check.due("3: a blank", x.insert(0, 26, ' '), 0);
        Check.due("3: an end", x.insert(0, 27, '/'), 0);
        Check.due("11: all of them", Check.text(x), "abcdefghijklmnopqrstuvwxyz /");
        Check.due("3: the end ends a paragraph", x.paragraphs(), 2);
        Check.due("3: no other sign is taken", EMPTY.signsTaken((z, sign) -> z.insert(0, 0, sign)),
                " /abcdefghijklmnopqrstuvwxyz");
        Story text = Story.plain("ab");
        char[] next = {'a' - 1, 'z' + 1, ' ' - 1, ' ' + 1, '/' - 1, '/' + 1, 'A', 'Z', '\n', 0, 0xffff, 0x100 + 'a'};
        for (char letter : next) {
            text.badArgument("3: sign " + (int) letter, z -> z.insert(0, 1, letter));
        }
    }

    private static void insertAtMostUnits() {
        Story text = Story.plain(A200.substring(1));
        text.answers("3: the 200th unit", 0, x -> x.insert(0, 199, 'b'));
        text.answers("3: the 200th unit, an end", 0, x -> x.insert(0, 0, '/'));
        text.answers("4: the 200th unit, a field", 0, x -> x.addField(0, 100, 'c', 0));
        Story full = text.then(x -> x.insert(0, 199, 'b'));
        full.badState("3: the 201st unit", x -> x.insert(0, 200, 'b'));
        full.badState("3: the 201st unit, at the begin", x -> x.insert(1, 0, '/'));
        full.badState("4: the 201st unit", x -> x.addField(0, 0, 'c', 0));
        full.then(x -> x.setTracking(false)).badState("3: also untracked", x -> x.insert(0, 0, 'b'));
        full.then(x -> x.undo()).answers("3: undone, there is room", 0, x -> x.insert(3, 7, 'c'));
        full.then(x -> x.undo()).then(x -> x.redo()).badState("3: done again, there is none", x -> x.insert(0, 0, 'b'));
        full.then(x -> x.erase(0, 199, 200)).answers("3: an own one is gone, so there is room", 1, x -> x.insert(1, 0, 'c'));
        Story erased = full.then(x -> x.erase(1, 0, 200));
        erased.badState("3: erased ones are counted", x -> x.insert(0, 0, 'c'));
        erased.badState("4: erased ones are counted", x -> x.addField(0, 0, 'c', 0));
        erased.then(x -> x.accept(1)).answers("3: accepted, they are gone", 2, x -> x.insert(0, 0, 'c'));
        erased.then(x -> x.refuse(1)).badState("3: refused, they are there", x -> x.insert(0, 0, 'c'));
        erased.then(x -> x.refuse(0)).answers("3: one is gone", 2, x -> x.insert(0, 0, 'c'));
        Story ends = Story.plain("/".repeat(200));
        ends.badState("3: ends are units", x -> x.insert(0, 0, 'c'));
        ends.answers("14: the last end is no unit", 201, x -> x.paragraphs());
    }

    private static void insertAtMostChanges() {
        Story most = Story.fullOfChanges();
        most.then(x -> x.undo()).answers("3: the 60th change", 59, x -> x.insert(3, 0, 'b'));
        most.badState("3: the 61st change", x -> x.insert(3, 0, 'b'));
        most.badState("3: behind one of another author", x -> x.insert(0, 60, 'b'));
        most.badState("3: at the begin there is none ahead", x -> x.insert(0, 0, 'b'));
        most.answers("3: none is needed", 59, x -> x.insert(1, 60, 'b'));
        most.answers("3: none is needed", 0, x -> x.insert(0, 1, '/'));
        most.then(x -> x.setTracking(false)).answers("3: none is needed, untracked", -1, x -> x.insert(0, 0, 'b'));
        Story judged = most.then(x -> x.judge(-1, true));
        judged.badState("3: those that wait no more are counted", x -> x.insert(1, 60, 'b'));
        most.then(x -> x.judge(-1, false)).badState("3: refused ones, too", x -> x.insert(0, 0, 'b'));
    }

    private static void insertOrder() {
        NO_ROOM.outOfBounds("3: author ahead of letter", x -> x.insert(4, 0, 'A'));
        NO_ROOM.outOfBounds("3: place ahead of letter", x -> x.insert(0, 201, 'A'));
        NO_ROOM.outOfBounds("3: author ahead of units, changes, protection", x -> x.insert(-1, 0, 'a'));
        NO_ROOM.outOfBounds("3: place ahead of units, changes, protection", x -> x.insert(0, -1, 'a'));
        NO_ROOM.badArgument("3: letter ahead of units, changes, protection", x -> x.insert(0, 0, 'A'));
        NO_ROOM.badState("3: units ahead of protection", x -> x.insert(1, 60, 'a'));
        Story changes = Story.fullOfChanges().then(x -> x.protect(0, true));
        changes.badArgument("3: letter ahead of changes", x -> x.insert(3, 0, 'A'));
        changes.badState("3: changes ahead of protection", x -> x.insert(3, 0, 'a'));
        changes.unsupported("3: protection alone", x -> x.insert(1, 60, 'a'));
        Story guarded = Story.plain("ab/c/").then(x -> x.protect(1, true));
        guarded.outOfBounds("3: place ahead of protection", x -> x.insert(0, 6, 'a'));
        guarded.badArgument("3: letter ahead of protection", x -> x.insert(0, 3, 'A'));
        guarded.unsupported("3: at the begin of the protected one", x -> x.insert(0, 3, 'a'));
        guarded.unsupported("3: at its end", x -> x.insert(0, 4, 'a'));
        guarded.then(x -> x.setTracking(false)).unsupported("3: also untracked", x -> x.insert(0, 4, 'a'));
        guarded.answers("3: at the end of the one ahead", 0, x -> x.insert(0, 2, 'a'));
        guarded.answers("3: in the empty one behind it", 0, x -> x.insert(0, 5, 'a'));
    }

    private static void addFieldTakes() {
        for (int bookmark = 0; bookmark < 6; bookmark++) {
            int of = bookmark;
            EMPTY.answers("4: n of " + of, 0, x -> x.addField(0, 0, 'n', of));
            EMPTY.answers("4: p of " + of, 0, x -> x.addField(3, 0, 'p', of));
            EMPTY.answers("4: l of " + of, 0, x -> x.addField(0, 0, 'l', of));
        }
        for (int column = 0; column < 3; column++) {
            int of = column;
            EMPTY.answers("4: r of " + of, 0, x -> x.addField(0, 0, 'r', of));
        }
        for (int of : new int[] {-1, 0, 2, 3, 5, 6, LEAST, MOST}) {
            EMPTY.answers("4: c has no use for " + of, 0, x -> x.addField(0, 0, 'c', of));
        }
        Story text = Story.plain("ab");
        text.answers("4: at the last place", 0, x -> x.addField(0, 2, 'c', 0));
        Story two = text.then(x -> x.addField(0, 2, 'c', 0)).then(x -> x.insert(0, 3, 'x'));
        two.answers("4: a field's change is that of what comes behind it", 1, x -> x.changes());
        two.answers("4: and a field joins the change ahead", 1, x -> x.addField(0, 4, 'c', 0));
        two.then(x -> x.addField(0, 4, 'c', 0)).answers("17: so there is still one", 1, x -> x.changes());
        two.then(x -> x.addField(1, 4, 'c', 0)).answers("17: of another author there is a new one", 1, x -> x.changeAt(4));
        two.answers("11: it is seen as '@'", '@', x -> x.unitAt(2));
        text.then(x -> x.setTracking(false)).answers("4: untracked it has its number all the same", 0,
                x -> x.addField(0, 0, 'c', 0));
    }

    private static void addFieldRefuses() {
        Story text = Story.plain("ab");
        for (int author : new int[] {-1, 4, LEAST, MOST}) {
            text.outOfBounds("4: author " + author, x -> x.addField(author, 0, 'c', 0));
        }
        for (int place : new int[] {-1, 3, LEAST, MOST}) {
            text.outOfBounds("4: place " + place, x -> x.addField(0, place, 'c', 0));
        }
        for (char kind : new char[] {'n', 'p', 'l'}) {
            for (int of : new int[] {-1, 6, LEAST, MOST}) {
                text.badArgument("4: " + kind + " of " + of, x -> x.addField(0, 0, kind, of));
            }
        }
        for (int of : new int[] {-1, 3, 5, LEAST, MOST}) {
            text.badArgument("4: r of " + of, x -> x.addField(0, 0, 'r', of));
        }
        Check.due("4: no other kind is taken", text.signsTaken((z, kind) -> z.addField(0, 0, kind, 0)), "clnpr");
        for (char kind : new char[] {'b', 'd', 'k', 'm', 'o', 'q', 's', 'N', '@', 0}) {
            text.badArgument("4: kind " + (int) kind, x -> x.addField(0, 0, kind, 0));
        }
    }

    private static void addFieldAtMost() {
        Story nineteen = EMPTY.times(19, x -> x.addField(0, 0, 'c', 0));
        nineteen.answers("4: the 20th field", 19, x -> x.addField(0, 0, 'c', 0));
        Story twenty = nineteen.then(x -> x.addField(0, 0, 'c', 0));
        twenty.badState("4: the 21st field", x -> x.addField(0, 0, 'c', 0));
        twenty.answers("3: a letter is none", 20, x -> x.insert(1, 0, 'c'));
        twenty.then(x -> x.undo()).badState("4: those whose writing was undone are counted", x -> x.addField(0, 0, 'c', 0));
        twenty.then(x -> x.judge(-1, false)).badState("4: those that are gone are counted", x -> x.addField(0, 0, 'c', 0));
        Story changes = Story.fullOfChanges();
        changes.badState("4: the 61st change", x -> x.addField(3, 0, 'c', 0));
        changes.answers("4: no new one is needed", 0, x -> x.addField(1, 60, 'c', 0));
        changes.then(x -> x.setTracking(false)).answers("4: nor untracked", 0, x -> x.addField(3, 0, 'c', 0));
        changes.then(x -> x.undo()).answers("4: the 60th change", 0, x -> x.addField(3, 0, 'c', 0));
    }

    private static void addFieldOrder() {
        NO_ROOM.outOfBounds("4: author ahead of kind", x -> x.addField(4, 0, 'x', 0));
        NO_ROOM.outOfBounds("4: place ahead of kind", x -> x.addField(0, -1, 'x', 0));
        NO_ROOM.outOfBounds("4: author ahead of bookmark", x -> x.addField(-1, 0, 'n', 6));
        NO_ROOM.outOfBounds("4: place ahead of column", x -> x.addField(0, 201, 'r', 3));
        NO_ROOM.outOfBounds("4: place ahead of units, fields, changes, protection", x -> x.addField(0, 201, 'c', 0));
        NO_ROOM.badArgument("4: kind ahead of units, fields, changes, protection", x -> x.addField(0, 0, 'x', 0));
        NO_ROOM.badArgument("4: bookmark ahead of them", x -> x.addField(0, 0, 'l', 6));
        NO_ROOM.badArgument("4: column ahead of them", x -> x.addField(0, 0, 'r', 3));
        NO_ROOM.badState("4: units, fields, changes ahead of protection", x -> x.addField(0, 0, 'c', 0));
        Story units = Story.plain(A200).then(x -> x.protect(0, true));
        units.badState("4: units ahead of protection", x -> x.addField(0, 0, 'c', 0));
        Story fields = EMPTY.times(20, x -> x.addField(0, 0, 'c', 0)).then(x -> x.protect(0, true));
        fields.badState("4: fields ahead of protection", x -> x.addField(0, 0, 'c', 0));
        Story changes = Story.fullOfChanges().then(x -> x.protect(0, true));
        changes.badState("4: changes ahead of protection", x -> x.addField(3, 0, 'c', 0));
        changes.unsupported("4: protection alone", x -> x.addField(1, 60, 'c', 0));
    }

    private static void addFieldNumbers() {
        Story gone = Story.plain("a").then(x -> x.addField(0, 0, 'c', 0)).then(x -> x.refuse(0));
        gone.answers("4: one that is gone has its number", 1, x -> x.addField(0, 0, 'c', 0));
        Story undone = Story.plain("a").then(x -> x.addField(0, 0, 'c', 0)).then(x -> x.undo());
        undone.answers("4: one that was undone has its number", 1, x -> x.addField(0, 0, 'c', 0));
        undone.answers("39: so it can be locked", false, x -> x.lock(0, true));
        undone.answers("40: and has a result", 0, x -> x.result(0));
        Story again = undone.then(x -> x.redo());
        again.then(x -> x.update()).answers("40: done again it is the same one", 1, x -> x.result(0));
        again.answers("4: the next one", 1, x -> x.addField(0, 0, 'c', 0));
        Story.plain("a").then(x -> x.addField(0, 1, 'c', 0)).then(x -> x.addField(0, 0, 'l', 0))
                .answers("4: by the order of writing, not of places", 2, x -> x.addField(0, 2, 'c', 0));
    }

    private static void eraseTakes() {
        Story text = Story.plain("ab/c");
        for (int from = 0; from <= 4; from++) {
            for (int to = from + 1; to <= 4; to++) {
                int first = from;
                int behind = to;
                String rest = "ab/c".substring(0, from) + "ab/c".substring(to);
                Story one = text.then(x -> x.erase(3, first, behind));
                text.answers("5: its change", 0, x -> x.erase(0, first, behind));
                Check.due("5: from " + from + " to " + to, Check.text(one.office()), rest);
                one.answers("21: its units", to - from, x -> x.unitsOf(0));
                Story off = text.then(x -> x.setTracking(false));
                off.answers("5: untracked", -1, x -> x.erase(0, first, behind));
                off.then(x -> x.erase(0, first, behind)).answers("12: gone", 4 - (to - from), x -> x.oldLength());
            }
        }
        Story all = Story.plain(A200).then(x -> x.erase(0, 0, 200));
        all.answers("10: all 200", 0, x -> x.length());
        all.answers("14: the last end cannot be erased", 1, x -> x.paragraphs());
        all.outOfBounds("5: there is nothing left", x -> x.erase(0, 0, 1));
    }

    private static void eraseRefuses() {
        Story text = Story.plain("ab/c").then(x -> x.insert(0, 4, 'd'));
        for (int author : new int[] {-1, 4, LEAST, MOST}) {
            text.outOfBounds("5: author " + author, x -> x.erase(author, 0, 1));
        }
        for (int place : new int[] {-1, 6, LEAST, MOST}) {
            text.outOfBounds("5: from " + place, x -> x.erase(0, place, 5));
            text.outOfBounds("5: to " + place, x -> x.erase(0, 0, place));
            text.outOfBounds("5: both " + place, x -> x.erase(0, place, place));
        }
        for (int k = 0; k <= 5; k++) {
            int place = k;
            text.badArgument("5: empty at " + place, x -> x.erase(0, place, place));
        }
        text.badArgument("5: less than empty", x -> x.erase(0, 5, 4));
        text.badArgument("5: less than empty", x -> x.erase(0, 5, 0));
        EMPTY.badArgument("5: empty, of none", x -> x.erase(0, 0, 0));
        EMPTY.outOfBounds("5: the last end is no unit", x -> x.erase(0, 0, 1));
        Story erased = text.then(x -> x.erase(1, 0, 2));
        erased.answers("5: counted in units that are seen", 2, x -> x.erase(2, 0, 3));
        erased.outOfBounds("5: one more", x -> x.erase(2, 0, 4));
    }

    private static void eraseAtMostChanges() {
        Story most = Story.fullOfChanges();
        most.then(x -> x.undo()).answers("5: the 60th change", 59, x -> x.erase(3, 0, 1));
        most.badState("5: the 61st change", x -> x.erase(3, 0, 1));
        most.badState("5: an own one and another", x -> x.erase(0, 0, 2));
        most.badState("5: another one and an own", x -> x.erase(1, 0, 2));
        most.answers("5: own ones alone", -1, x -> x.erase(0, 0, 1));
        most.answers("5: own ones alone", -1, x -> x.erase(1, 59, 60));
        Story between = most.then(x -> x.undo()).then(x -> x.erase(3, 1, 2));
        between.answers("5: own ones alone are seen, so none is needed", -1, x -> x.erase(0, 0, 2));
        between.badState("5: one more is seen", x -> x.erase(0, 0, 3));
        most.then(x -> x.setTracking(false)).answers("5: untracked", -1, x -> x.erase(3, 0, 60));
        most.then(x -> x.judge(-1, true)).badState("5: what is accepted is nobody's", x -> x.erase(0, 0, 1));
    }

    private static void eraseOrder() {
        NO_ROOM.outOfBounds("5: author ahead of an empty part", x -> x.erase(4, 0, 0));
        NO_ROOM.outOfBounds("5: from ahead of less than empty", x -> x.erase(0, 201, 0));
        NO_ROOM.outOfBounds("5: to ahead of less than empty", x -> x.erase(0, 5, -1));
        NO_ROOM.outOfBounds("5: places ahead of changes", x -> x.erase(3, 0, 201));
        NO_ROOM.outOfBounds("5: author ahead of changes", x -> x.erase(-1, 0, 1));
        NO_ROOM.badArgument("5: empty ahead of protection", x -> x.erase(3, 7, 7));
        NO_ROOM.badArgument("5: less than empty ahead of changes and protection", x -> x.erase(3, 7, 6));
        NO_ROOM.badState("5: changes ahead of protection", x -> x.erase(3, 0, 1));
        NO_ROOM.unsupported("5: protection alone", x -> x.erase(0, 0, 1));
        Story guarded = Story.plain("ab").then(x -> x.protect(0, true));
        guarded.outOfBounds("5: author ahead of protection", x -> x.erase(4, 0, 1));
        guarded.outOfBounds("5: to ahead of protection", x -> x.erase(0, 0, 3));
        guarded.badArgument("5: empty ahead of protection", x -> x.erase(0, 1, 1));
    }

    private static void eraseTouches() {
        Story text = Story.plain("ab/cd/ef");
        Story middle = text.then(x -> x.protect(1, true));
        middle.answers("5: up to the end of the one ahead", 0, x -> x.erase(0, 0, 2));
        middle.unsupported("5: with that end, so to the begin of it", x -> x.erase(0, 2, 3));
        middle.unsupported("5: at its begin", x -> x.erase(0, 3, 4));
        middle.unsupported("5: up to its end", x -> x.erase(0, 4, 5));
        middle.unsupported("5: its end", x -> x.erase(0, 5, 6));
        middle.answers("5: behind it", 0, x -> x.erase(0, 6, 7));
        middle.unsupported("5: over it", x -> x.erase(0, 1, 7));
        middle.then(x -> x.setTracking(false)).unsupported("5: over it, untracked", x -> x.erase(0, 1, 7));
        Story last = text.then(x -> x.protect(2, true));
        last.unsupported("5: to the begin of the last one", x -> x.erase(0, 5, 6));
        last.answers("5: up to the end ahead of it", 0, x -> x.erase(0, 0, 5));
        Story first = text.then(x -> x.protect(0, true));
        first.unsupported("5: from the end of the first one", x -> x.erase(0, 2, 3));
        first.answers("5: all behind it", 0, x -> x.erase(0, 3, 8));
        Story hidden = text.then(x -> x.erase(1, 2, 6)).then(x -> x.protect(0, true));
        hidden.answers("14: one is left", 1, x -> x.paragraphs());
        hidden.unsupported("5: the joined one is protected", x -> x.erase(0, 0, 1));
        Story freed = hidden.then(x -> x.refuse(0));
        freed.answers("7: it was the end of the last one", true, x -> x.protect(2, true));
        freed.answers("7: not that of the first one", false, x -> x.protect(0, true));
    }

    private static void setStyleTakes() {
        Story text = Story.plain("a/b/").then(x -> x.addStyle(0, true, -1));
        for (int k = 0; k < 3; k++) {
            int paragraph = k;
            text.answers("6: paragraph " + k, 0, x -> x.setStyle(0, paragraph, 1));
            Story set = text.then(x -> x.setStyle(3, paragraph, 1));
            for (int other = 0; other < 3; other++) {
                int at = other;
                set.answers("27: set there alone", at == paragraph ? 1 : 0, x -> x.styleOf(at));
            }
            text.answers("6: also the one that is there", 0, x -> x.setStyle(2, paragraph, 0));
        }
        text.then(x -> x.setTracking(false)).answers("6: untracked", -1, x -> x.setStyle(2, 0, 1));
        Story eight = text.times(6, x -> x.addStyle(0, true, -1));
        eight.answers("6: the last style", 0, x -> x.setStyle(0, 0, 7));
        eight.outOfBounds("6: one behind it", x -> x.setStyle(0, 0, 8));
    }

    private static void setStyleRefuses() {
        Story text = Story.plain("a/b").then(x -> x.addStyle(0, true, -1));
        for (int author : new int[] {-1, 4, LEAST, MOST}) {
            text.outOfBounds("6: author " + author, x -> x.setStyle(author, 0, 0));
        }
        for (int wrong : new int[] {-1, 2, LEAST, MOST}) {
            text.outOfBounds("6: paragraph " + wrong, x -> x.setStyle(0, wrong, 0));
            text.outOfBounds("6: style " + wrong, x -> x.setStyle(0, 0, wrong));
        }
        text.then(x -> x.erase(0, 1, 2)).outOfBounds("6: a paragraph that is not seen", x -> x.setStyle(0, 1, 0));
        EMPTY.outOfBounds("6: no style behind the first one", x -> x.setStyle(0, 0, 1));
        EMPTY.outOfBounds("6: no paragraph behind the first one", x -> x.setStyle(0, 1, 0));
    }

    private static void setStyleAtMostChanges() {
        Story most = Story.fullOfChanges();
        most.badState("6: the 61st change", x -> x.setStyle(0, 0, 0));
        most.then(x -> x.undo()).answers("6: the 60th change", 59, x -> x.setStyle(0, 0, 0));
        most.then(x -> x.setTracking(false)).answers("6: untracked", -1, x -> x.setStyle(0, 0, 0));
        Story waits = most.then(x -> x.undo()).then(x -> x.setStyle(0, 0, 0));
        waits.answers("6: one that waits is there already", 59, x -> x.setStyle(3, 0, 0));
        waits.then(x -> x.accept(59)).badState("6: it waits no more", x -> x.setStyle(3, 0, 0));
        waits.then(x -> x.refuse(59)).badState("6: it waits no more", x -> x.setStyle(3, 0, 0));
    }

    private static void setStyleOrder() {
        NO_ROOM.outOfBounds("6: author ahead of changes and protection", x -> x.setStyle(4, 0, 0));
        NO_ROOM.outOfBounds("6: paragraph ahead of them", x -> x.setStyle(0, 1, 0));
        NO_ROOM.outOfBounds("6: style ahead of them", x -> x.setStyle(0, 0, 1));
        NO_ROOM.badState("6: changes ahead of protection", x -> x.setStyle(0, 0, 0));
        NO_ROOM.then(x -> x.setTracking(false)).unsupported("6: untracked, protection", x -> x.setStyle(0, 0, 0));
        Story guarded = Story.plain("a/b").then(x -> x.setStyle(0, 1, 0)).then(x -> x.protect(1, true));
        guarded.unsupported("6: protected, also if a change waits", x -> x.setStyle(0, 1, 0));
        guarded.answers("6: the other one", 1, x -> x.setStyle(0, 0, 0));
    }

    private static void protect() {
        Story text = Story.plain("a/b");
        for (int wrong : new int[] {-1, 2, LEAST, MOST}) {
            text.outOfBounds("7: paragraph " + wrong, x -> x.protect(wrong, true));
            text.outOfBounds("7: paragraph " + wrong, x -> x.protect(wrong, false));
        }
        EMPTY.outOfBounds("7: paragraph 1 of a new one", x -> x.protect(1, true));
        text.answers("7: the first one", false, x -> x.protect(0, true));
        text.answers("7: the last one", false, x -> x.protect(1, true));
        Story guarded = text.then(x -> x.protect(1, true));
        guarded.answers("7: it was", true, x -> x.protect(1, true));
        guarded.answers("7: the other one was not", false, x -> x.protect(0, true));
        guarded.then(x -> x.protect(1, false)).answers("7: it was ended", false, x -> x.protect(1, false));
        guarded.then(x -> x.protect(1, true)).then(x -> x.undo()).answers("7: twice is an edit, too", true,
                x -> x.protect(1, true));
        guarded.unsupported("29: setList", x -> x.setList(1, 0, 0));
        guarded.unsupported("30: restart", x -> x.restart(1, 1));
        guarded.answers("36: setBookmark is free", 0, x -> x.setBookmark(0, 3, 3));
        guarded.answers("25: so is judging", 0, x -> x.judge(-1, true));
        Story joined = Story.plain("a/b").then(x -> x.protect(0, true)).then(x -> x.protect(0, false))
                .then(x -> x.erase(0, 1, 2)).then(x -> x.protect(0, true)).then(x -> x.accept(0));
        joined.answers("7: a joined one has what the next one has", true, x -> x.protect(0, true));
    }

    private static void undo() {
        EMPTY.noElement("8: nothing was done", x -> x.undo());
        Story one = EMPTY.then(x -> x.insert(0, 0, 'a'));
        one.answers("8: the only one", 0, x -> x.undo());
        one.then(x -> x.undo()).noElement("8: one more", x -> x.undo());
        Story six = EMPTY.type(0, 0, "abcdef");
        six.answers("8: the last of six", 5, x -> x.undo());
        six.times(5, x -> x.undo()).answers("8: the first of six", 0, x -> x.undo());
        six.times(6, x -> x.undo()).noElement("8: one more than six", x -> x.undo());
        six.times(6, x -> x.undo()).answers("8: all six", 0, x -> x.length());
        Story seven = six.then(x -> x.insert(0, 6, 'g'));
        seven.answers("8: the last of seven", 5, x -> x.undo());
        seven.times(5, x -> x.undo()).answers("8: the second of seven", 0, x -> x.undo());
        Story left = seven.times(6, x -> x.undo());
        left.noElement("8: the first of seven cannot be undone", x -> x.undo());
        left.answers("8: it stays", 1, x -> x.length());
        left.answers("17: its change, too", 1, x -> x.changes());
        Story many = EMPTY.type(0, 0, "a".repeat(60));
        many.times(6, x -> x.undo()).noElement("8: sixty edits", x -> x.undo());
        many.times(6, x -> x.undo()).answers("8: sixty edits", 54, x -> x.length());
        Story refused = one.then(x -> catching(() -> x.insert(0, 9, 'a')));
        refused.answers("8: a refused call is no edit", 0, x -> x.undo());
        Story changes = one.then(x -> x.insert(1, 0, 'b')).then(x -> x.erase(2, 0, 1)).times(2, x -> x.undo());
        changes.answers("17: there are as many changes as there were", 1, x -> x.changes());
        changes.outOfBounds("18: the second one is not there", x -> x.kindOf(1));
        changes.answers("3: its number is given again", 1, x -> x.insert(3, 0, 'c'));
        changes.then(x -> x.insert(3, 0, 'c')).answers("19: to another one", 3, x -> x.authorOf(1));
    }

    private static void redo() {
        EMPTY.noElement("9: nothing was undone", x -> x.redo());
        Story six = EMPTY.type(0, 0, "abcdefgh");
        six.noElement("9: nothing was undone", x -> x.redo());
        Story undone = six.times(6, x -> x.undo());
        undone.answers("9: the first of six", 5, x -> x.redo());
        undone.times(5, x -> x.redo()).answers("9: the last of six", 0, x -> x.redo());
        Story again = undone.times(6, x -> x.redo());
        again.noElement("9: one more than six", x -> x.redo());
        Check.due("9: all six are there", Check.text(again.office()), "abcdefgh");
        again.answers("8: all six can be undone again", 5, x -> x.undo());
        Check.due("9: one of six", Check.text(undone.then(x -> x.redo()).office()), "abc");
        six.then(x -> x.undo()).answers("9: one alone", 0, x -> x.redo());
        Story edited = undone.then(x -> x.redo()).then(x -> x.insert(1, 0, 'x'));
        edited.noElement("9: a new edit ends it", x -> x.redo());
        edited.answers("8: what was done ahead can be undone", 1, x -> x.undo());
        edited.then(x -> x.undo()).answers("9: the new one can be done again, alone", 0, x -> x.redo());
        Story refused = undone.then(x -> catching(() -> x.erase(0, 1, 1)));
        refused.answers("9: a refused call does not end it", 5, x -> x.redo());
        Story judged = undone.then(x -> x.judge(3, true));
        judged.noElement("9: judging none is an edit", x -> x.redo());
        judged.answers("8: it can be undone", 0, x -> x.undo());
    }

    // A text with something of each kind, in which each edit has something to change.
    private static Story rich() {
        return Story.plain("ab/cd").then(x -> x.addStyle(0, true, 1)).then(x -> x.insert(0, 1, 'x'))
                .then(x -> x.addField(1, 2, 'l', 0)).then(x -> x.setBookmark(0, 1, 4)).then(x -> x.setList(0, 1, 1))
                .then(x -> x.restart(0, 7)).then(x -> x.erase(2, 5, 7)).then(x -> x.setStyle(3, 0, 1))
                .then(x -> x.update());
    }

    private static final List<Function<SealOffice, Object>> EDITS = List.of(
            x -> x.insert(0, 0, '/'), x -> x.erase(0, 0, 3), x -> x.setStyle(0, 0, 0), x -> x.protect(0, true),
            x -> x.accept(0), x -> x.refuse(1), x -> x.judge(-1, false), x -> x.judge(-1, true),
            x -> x.setList(0, 0, 2), x -> x.setList(0, -1, 0), x -> x.restart(0, 99), x -> x.restart(0, 0),
            x -> x.setBookmark(0, 0, 1), x -> x.setBookmark(5, 0, 0));

    private static final List<Function<SealOffice, Object>> NO_EDITS = List.of(
            x -> x.setTracking(true), x -> x.length(), x -> x.unitAt(0), x -> x.oldLength(), x -> x.oldAt(0),
            x -> x.paragraphs(), x -> x.paragraphOf(0), x -> x.startOf(0), x -> x.changes(), x -> x.kindOf(0),
            x -> x.authorOf(0), x -> x.stateOf(0), x -> x.unitsOf(0), x -> x.changeAt(1), x -> x.addStyle(0, true, 0),
            x -> x.styleOf(0), x -> x.isBold(0), x -> x.setKind(0, 0, 'a'), x -> x.setLegal(0, true), x -> x.numberOf(0),
            x -> x.writeNumber(0), x -> x.bookmarkFrom(0), x -> x.bookmarkTo(0), x -> x.lock(0, true), x -> x.result(0),
            x -> x.update(), x -> x.setRecord(0, 0, 1), x -> x.choose(1), x -> x.merge(0, 9), x -> x.setPage(5, 2),
            x -> x.pages(), x -> x.pageOf(0), x -> x.lineOf(0), x -> x.waitingShare(), x -> x.shareBits(),
            x -> x.meanParagraph(), x -> x.meanBits(), x -> x.isSound());

    private static void whatUndoGivesBack() {
        Story text = rich();
        String before = Check.all(text.office());
        for (int k = 0; k < EDITS.size(); k++) {
            Story edited = text.then(EDITS.get(k));
            Story undone = edited.then(x -> x.undo());
            Check.due("8: undone, all is as before, edit " + k, Check.all(undone.office()), before);
            Check.due("9: done again, all is as behind it, edit " + k, Check.all(undone.then(x -> x.redo()).office()),
                    Check.all(edited.office()));
            undone.answers("8: what it was in, edit " + k, 1, x -> x.setList(0, -1, 0));
            undone.answers("8: its restart, edit " + k, 7, x -> x.restart(0, 0));
            undone.answers("8: its protection, edit " + k, false, x -> x.protect(0, true));
            undone.then(x -> x.setList(0, 1, 1)).answers("8: its level, edit " + k, 3, x -> x.writeNumber(0));
            Story updated = edited.then(x -> x.update()).then(x -> x.setBookmark(0, 0, 0)).then(x -> x.update())
                    .times(2, x -> x.undo());
            Check.due("8: also two, with results found behind them, edit " + k, Check.all(updated.office()), before);
        }
    }

    private static void whatIsAnEdit() {
        Story text = rich().times(3, x -> x.undo());
        Story ahead = text.then(x -> x.redo());
        for (int k = 0; k < EDITS.size(); k++) {
            ahead.then(EDITS.get(k)).answers("8: one edit, " + k, 4, x -> x.undo());
            text.then(EDITS.get(k)).noElement("9: it ends what can be done again, " + k, x -> x.redo());
        }
        ahead.then(x -> x.addField(0, 0, 'c', 0)).answers("8: addField is one edit", 4, x -> x.undo());
        text.then(x -> x.addField(0, 0, 'c', 0)).noElement("9: it ends what can be done again", x -> x.redo());
        for (int k = 0; k < NO_EDITS.size(); k++) {
            Story called = ahead.then(NO_EDITS.get(k));
            called.answers("8: no edit, " + k, 3, x -> x.undo());
            called.answers("9: it leaves what can be done again, " + k, 1, x -> x.redo());
        }
    }

    private static void mostCalls() {
        Story most = EMPTY.then(x -> x.setTracking(false));
        for (int k = 0; k < 255; k++) {
            most = most.then(x -> x.insert(0, 0, 'a')).then(x -> x.erase(0, 0, 1));
        }
        most.answers("an object is used for 512 calls", 5, x -> x.undo());
        Story reads = Story.plain("ab").times(507, x -> catching(() -> x.unitAt(2)));
        reads.answers("512 calls, most of them refused", 'b', x -> x.unitAt(1));
    }

    private static Object catching(Check.Call call) {
        try {
            return call.run();
        } catch (RuntimeException e) {
            return e.getClass();
        }
    }
}
