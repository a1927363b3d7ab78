import java.util.NoSuchElementException;

/** Promises 17 to 25: changes and how they are judged. */
public final class ChangesTest {
    private static final Class<IndexOutOfBoundsException> BOUNDS = IndexOutOfBoundsException.class;
    private static final Class<IllegalStateException> STATE = IllegalStateException.class;

    public static void main(String[] args) {
        figures();
        wrongNumbers();
        changeAt();
        acceptAndRefuse();
        goneIsGoneForAll();
        stylesOfEnds();
        judge();
        Check.end();
    }

    private static void figures() {
        SealOffice x = Check.plain("abc");
        x.insert(3, 0, 'x');
        x.erase(2, 1, 3);
        x.setStyle(1, 0, 0);
        Check.due("17: changes", x.changes(), 3);
        Check.due("18: writing", x.kindOf(0), 'i');
        Check.due("18: erasing", x.kindOf(1), 'e');
        Check.due("18: style", x.kindOf(2), 's');
        Check.due("19: author", x.authorOf(0), 3);
        Check.due("19: author", x.authorOf(1), 2);
        Check.due("19: author", x.authorOf(2), 1);
        Check.due("20: waits", x.stateOf(0), 'w');
        Check.due("21: one", x.unitsOf(0), 1);
        Check.due("21: two", x.unitsOf(1), 2);
        Check.due("21: the end", x.unitsOf(2), 1);
        x.accept(0);
        x.refuse(1);
        Check.due("20: accepted", x.stateOf(0), 'a');
        Check.due("20: refused", x.stateOf(1), 'r');
        Check.due("17: those that were judged count", x.changes(), 3);
        Check.due("21: none", x.unitsOf(0), 0);
        Check.due("21: none", x.unitsOf(1), 0);
        x.undo();
        Check.due("20: waits again", x.stateOf(1), 'w');
        Check.due("21: two again", x.unitsOf(1), 2);
    }

    private static void wrongNumbers() {
        SealOffice x = Check.plain("abc");
        x.insert(3, 0, 'x');
        for (int wrong : new int[] {-1, 1, 60, Integer.MAX_VALUE, Integer.MIN_VALUE}) {
            Check.fails("18: kindOf", BOUNDS, () -> x.kindOf(wrong));
            Check.fails("19: authorOf", BOUNDS, () -> x.authorOf(wrong));
            Check.fails("20: stateOf", BOUNDS, () -> x.stateOf(wrong));
            Check.fails("21: unitsOf", BOUNDS, () -> x.unitsOf(wrong));
            Check.fails("23: accept", BOUNDS, () -> x.accept(wrong));
            Check.fails("24: refuse", BOUNDS, () -> x.refuse(wrong));
        }
        x.undo();
        Check.fails("18: undone", BOUNDS, () -> x.kindOf(0));
    }

    private static void changeAt() {
        SealOffice x = Check.plain("ab");
        x.insert(0, 1, 'x');
        x.insert(1, 2, 'y');
        Check.due("22: first", x.changeAt(1), 0);
        Check.due("22: second", x.changeAt(2), 1);
        Check.fails("22: by none", NoSuchElementException.class, () -> x.changeAt(0));
        Check.fails("22: -1", BOUNDS, () -> x.changeAt(-1));
        Check.fails("22: last place", BOUNDS, () -> x.changeAt(4));
        x.accept(0);
        Check.fails("22: by none that waits", NoSuchElementException.class, () -> x.changeAt(1));
        x.erase(3, 0, 1);
        Check.fails("22: erased is not written", NoSuchElementException.class, () -> x.changeAt(0));
    }

    private static void acceptAndRefuse() {
        SealOffice x = Check.plain("abcd");
        Check.type(x, 0, 4, "xyz");
        x.erase(1, 0, 5);
        Check.due("23: writing", x.accept(0), 3);
        Check.due("23: also what is erased", Check.old(x), "abcdxyz");
        Check.fails("23: waits no more", STATE, () -> x.accept(0));
        Check.fails("24: waits no more", STATE, () -> x.refuse(0));
        Check.due("23: erasing", x.accept(1), 5);
        Check.due("23: gone", Check.old(x), "yz");
        Check.fails("24: accepted", STATE, () -> x.refuse(1));
        x.insert(2, 1, 'q');
        x.erase(0, 0, 3);
        Check.due("24: erasing", x.refuse(3), 3);
        Check.due("24: there again", Check.text(x), "yqz");
        Check.due("24: writing", x.refuse(2), 1);
        Check.due("24: gone", Check.text(x), "yz");
        Check.fails("23: refused", STATE, () -> x.accept(2));
    }

    private static void goneIsGoneForAll() {
        SealOffice x = Check.plain("a");
        Check.type(x, 0, 1, "xy");
        x.erase(1, 0, 2);
        Check.due("21: two erased", x.unitsOf(1), 2);
        Check.due("24: written ones go", x.refuse(0), 2);
        Check.due("21: one erased", x.unitsOf(1), 1);
        Check.due("24: there again", x.refuse(1), 1);
        Check.due("24: text", Check.text(x), "a");
        SealOffice y = Check.plain("a");
        Check.type(y, 0, 1, "xy");
        y.erase(1, 0, 2);
        Check.due("23: erased ones go", y.accept(1), 2);
        Check.due("21: one written", y.unitsOf(0), 1);
        Check.due("23: text", Check.text(y), "y");
    }

    private static void stylesOfEnds() {
        SealOffice x = Check.plain("a/b");
        x.addStyle(0, true, -1);
        x.setStyle(0, 0, 1);
        x.erase(1, 1, 2);
        Check.due("21: an erased end is there", x.unitsOf(0), 1);
        x.accept(1);
        Check.due("21: its end is gone", x.unitsOf(0), 0);
        Check.due("20: it waits", x.stateOf(0), 'w');
        Check.due("24: it concerned none", x.refuse(0), 0);
        Check.due("24: the other paragraph has its own", x.styleOf(0), 0);
    }

    private static void judge() {
        SealOffice x = Check.plain("ab");
        x.insert(0, 0, 'x');
        x.insert(1, 1, 'y');
        x.erase(0, 1, 3);
        x.insert(1, 1, 'z');
        Check.fails("25: author 4", BOUNDS, () -> x.judge(4, true));
        Check.fails("25: author -2", BOUNDS, () -> x.judge(-2, false));
        Check.due("25: none", x.judge(2, false), 0);
        Check.due("25: the first one's", x.judge(0, false), 2);
        Check.due("25: text", Check.text(x), "yazb");
        Check.due("25: all", x.judge(-1, true), 2);
        Check.due("25: text", Check.text(x), "yazb");
        Check.due("25: none waits", x.judge(-1, true), 0);
        x.undo();
        x.undo();
        Check.due("25: refused all", x.judge(-1, false), 2);
        Check.due("25: old text", Check.text(x), "ab");
        Check.due("25: one that was judged", x.stateOf(0), 'r');
        SealOffice y = Check.plain("ab");
        Check.type(y, 0, 0, "x");
        y.erase(0, 0, 1);
        Check.due("25: one without units counts", y.judge(0, true), 1);
    }
}
