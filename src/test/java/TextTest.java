/** Promises 10 to 16: the text that is seen, the old one, and its paragraphs. */
public final class TextTest {
    private static final Class<IndexOutOfBoundsException> BOUNDS = IndexOutOfBoundsException.class;

    public static void main(String[] args) {
        SealOffice x = Check.plain("ab/cd");
        Check.due("10: length", x.length(), 5);
        Check.due("12: oldLength", x.oldLength(), 5);
        x.insert(1, 5, 'e');
        x.addField(2, 0, 'c', 0);
        Check.due("10: what is written is seen", x.length(), 7);
        Check.due("12: but not old", x.oldLength(), 5);
        Check.due("11: field", x.unitAt(0), '@');
        Check.due("11: letter", x.unitAt(6), 'e');
        Check.due("11: end", x.unitAt(3), '/');
        Check.due("13: old text", Check.old(x), "ab/cd");
        x.erase(0, 2, 5);
        Check.due("10: what is erased is not seen", x.length(), 4);
        Check.due("11: text", Check.text(x), "@ade");
        Check.due("12: but old", x.oldLength(), 5);
        Check.due("13: old text still", Check.old(x), "ab/cd");
        Check.fails("11: place -1", BOUNDS, () -> x.unitAt(-1));
        Check.fails("11: the last place", BOUNDS, () -> x.unitAt(4));
        Check.fails("13: index -1", BOUNDS, () -> x.oldAt(-1));
        Check.fails("13: index 5", BOUNDS, () -> x.oldAt(5));
        x.accept(1);
        Check.due("12: an accepted field is old", Check.old(x), "@ab/cd");
        x.erase(3, 0, 1);
        Check.due("13: erased, but old", x.oldAt(0), '@');
        x.judge(-1, false);
        Check.due("12: refusing all gives it", Check.text(x), Check.old(x));
        paragraphs();
        Check.end();
    }

    private static void paragraphs() {
        SealOffice x = Check.plain("/ab/c/");
        Check.due("14: paragraphs", x.paragraphs(), 4);
        int[] paragraphs = {0, 1, 1, 1, 2, 2, 3};
        for (int place = 0; place < paragraphs.length; place++) {
            Check.due("15: paragraph of place " + place, x.paragraphOf(place), paragraphs[place]);
        }
        int[] starts = {0, 1, 4, 6};
        for (int paragraph = 0; paragraph < starts.length; paragraph++) {
            Check.due("16: start of " + paragraph, x.startOf(paragraph), starts[paragraph]);
        }
        Check.fails("15: place -1", BOUNDS, () -> x.paragraphOf(-1));
        Check.fails("15: place 7", BOUNDS, () -> x.paragraphOf(7));
        Check.fails("16: paragraph -1", BOUNDS, () -> x.startOf(-1));
        Check.fails("16: paragraph 4", BOUNDS, () -> x.startOf(4));
        x.erase(0, 2, 4);
        Check.due("14: an erased end is not seen", x.paragraphs(), 3);
        Check.due("15: joined", x.paragraphOf(2), 1);
        Check.due("16: behind it", x.startOf(2), 4);
        Check.fails("16: no such one now", BOUNDS, () -> x.startOf(3));
        x.refuse(0);
        Check.due("14: there again", x.paragraphs(), 4);
    }
}
