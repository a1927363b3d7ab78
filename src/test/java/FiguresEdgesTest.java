/** Promises 49 to 53: each sentence that names an edge. */
public final class FiguresEdgesTest {
    private static final Story EMPTY = new Story();

    public static void main(String[] args) {
        noUnits();
        shares();
        shareBits();
        means();
        meanBits();
        sound();
        soundInEachState();
        Check.end();
    }

    private static void noUnits() {
        EMPTY.arithmetic("49: there are no units", x -> x.waitingShare());
        EMPTY.arithmetic("50: there are no units", x -> x.shareBits());
        Story gone = EMPTY.then(x -> x.insert(0, 0, 'a')).then(x -> x.refuse(0));
        gone.arithmetic("49: the only one is gone", x -> x.waitingShare());
        gone.arithmetic("50: the only one is gone", x -> x.shareBits());
        gone.then(x -> x.undo()).answers("49: there again", 1f, x -> x.waitingShare());
        EMPTY.then(x -> x.setStyle(0, 0, 0)).arithmetic("49: the last end is no unit", x -> x.waitingShare());
        Story erased = Story.plain("a").then(x -> x.erase(0, 0, 1));
        erased.answers("49: an erased one is one", 1f, x -> x.waitingShare());
        erased.then(x -> x.accept(0)).arithmetic("49: accepted, it is gone", x -> x.waitingShare());
        EMPTY.answers("51: of no units there is a mean", 0.0, x -> x.meanParagraph());
        EMPTY.answers("52: and its bits", 0L, x -> x.meanBits());
    }

    private static void shares() {
        Story text = Story.plain("abc");
        text.answers("49: none", 0f, x -> x.waitingShare());
        text.then(x -> x.setStyle(0, 0, 0)).answers("49: a style does not count", 0f, x -> x.waitingShare());
        Story end = Story.plain("a/b").then(x -> x.setStyle(0, 0, 0));
        end.answers("49: nor that of an end that is a unit", 0f, x -> x.waitingShare());
        text.then(x -> x.insert(0, 0, 'x')).answers("49: written", 1f / 4f, x -> x.waitingShare());
        text.then(x -> x.addField(0, 0, 'c', 0)).answers("49: a field", 1f / 4f, x -> x.waitingShare());
        text.then(x -> x.erase(0, 0, 2)).answers("49: erased", 2f / 3f, x -> x.waitingShare());
        text.then(x -> x.erase(0, 0, 3)).answers("49: all erased", 1f, x -> x.waitingShare());
        Story both = text.then(x -> x.insert(0, 0, 'x')).then(x -> x.erase(1, 0, 2));
        both.answers("49: one that is written and erased is counted once", 2f / 4f, x -> x.waitingShare());
        both.then(x -> x.accept(0)).answers("49: it is erased still", 2f / 4f, x -> x.waitingShare());
        both.then(x -> x.refuse(1)).answers("49: it is written still", 1f / 4f, x -> x.waitingShare());
        both.then(x -> x.judge(-1, true)).answers("49: none waits", 0f, x -> x.waitingShare());
        EMPTY.type(0, 0, "a".repeat(200)).answers("49: all 200", 1f, x -> x.waitingShare());
    }

    private static void shareBits() {
        for (int all = 1; all <= 200; all += all < 20 ? 1 : 9) {
            Story text = Story.plain("a".repeat(all));
            text.answers("50: none of " + all, 0, x -> x.shareBits());
            for (int many = 1; many <= all; many += all < 20 ? 1 : 7) {
                int part = many;
                float share = (float) many / (float) all;
                Story erased = text.then(x -> x.erase(0, 0, part));
                erased.answers("49: " + many + " of " + all, share, x -> x.waitingShare());
                erased.answers("50: " + many + " of " + all, Float.floatToIntBits(share), x -> x.shareBits());
            }
        }
        Story one = Story.plain("a".repeat(199)).then(x -> x.insert(0, 0, 'a'));
        one.answers("50: the least share of all", Float.floatToIntBits(1f / 200f), x -> x.shareBits());
        one.then(x -> x.refuse(0)).answers("50: none", 0, x -> x.shareBits());
        Story all = EMPTY.then(x -> x.insert(0, 0, 'a'));
        all.answers("50: the greatest of all", 0x3f800000, x -> x.shareBits());
    }

    private static void means() {
        EMPTY.then(x -> x.insert(0, 0, 'a')).answers("51: one", 1.0, x -> x.meanParagraph());
        EMPTY.then(x -> x.insert(0, 0, '/')).answers("51: two empty ones", 0.0, x -> x.meanParagraph());
        Story text = Story.plain("ab/c");
        text.answers("51: ends are left out", 3.0 / 2.0, x -> x.meanParagraph());
        text.then(x -> x.addField(0, 0, 'c', 0)).answers("51: a field is one", 4.0 / 2.0, x -> x.meanParagraph());
        text.then(x -> x.erase(0, 0, 1)).answers("51: what is seen", 2.0 / 2.0, x -> x.meanParagraph());
        text.then(x -> x.erase(0, 2, 3)).answers("51: paragraphs that are seen", 3.0, x -> x.meanParagraph());
        text.then(x -> x.erase(0, 0, 4)).answers("51: nothing is seen", 0.0, x -> x.meanParagraph());
        Story.plain("a".repeat(200)).answers("51: the greatest of all", 200.0, x -> x.meanParagraph());
        Story.plain("/".repeat(200)).answers("51: 201 empty ones", 0.0, x -> x.meanParagraph());
        Story.plain("/".repeat(199) + "a").answers("51: the least but 0", 1.0 / 200.0, x -> x.meanParagraph());
    }

    private static void meanBits() {
        for (int ends = 0; ends <= 200; ends += ends < 12 ? 1 : 17) {
            for (int letters = 0; letters <= 200 - ends; letters += letters < 12 ? 1 : 19) {
                double mean = (double) letters / (double) (ends + 1);
                SealOffice x = Story.plain("a".repeat(letters) + "/".repeat(ends)).office();
                Check.due("51: " + letters + " in " + (ends + 1), x.meanParagraph(), mean);
                Check.due("52: " + letters + " in " + (ends + 1), x.meanBits(), Double.doubleToLongBits(mean));
            }
        }
        Story.plain("a".repeat(200)).answers("52: the greatest of all", Double.doubleToLongBits(200.0), x -> x.meanBits());
        Story.plain("/".repeat(199) + "a").answers("52: the least but 0", Double.doubleToLongBits(0.005), x -> x.meanBits());
    }

    private static void sound() {
        EMPTY.answers("53: a new one", true, x -> x.isSound());
        Story text = Story.plain("ab/cd").then(x -> x.addStyle(0, true, 1)).then(x -> x.setBookmark(0, 1, 4))
                .then(x -> x.insert(0, 1, 'x')).then(x -> x.erase(1, 0, 3)).then(x -> x.setStyle(2, 0, 1));
        text.answers("53: changes of each kind", true, x -> x.isSound());
        text.then(x -> x.isSound()).answers("53: it is no edit", 5, x -> x.undo());
        String before = Check.all(text.office());
        Check.due("53: it changes nothing", Check.all(text.then(x -> x.isSound()).office()), before);
        Story.fullOfChanges().answers("53: 60 changes", true, x -> x.isSound());
        Story.plain("a /c/".repeat(40)).then(x -> x.setPage(5, 2)).answers("53: 200 units", true, x -> x.isSound());
        Story.plain("/".repeat(200)).then(x -> x.erase(0, 0, 200)).answers("53: none is seen", true, x -> x.isSound());
    }

    // Each change of a text is judged, or waits.
    private static void soundInEachState() {
        Story text = Story.plain("ab/c").type(0, 1, "x/").then(x -> x.erase(1, 0, 3)).then(x -> x.setStyle(2, 0, 0))
                .then(x -> x.insert(3, 1, 'y')).then(x -> x.setBookmark(5, 1, 2)).then(x -> x.erase(3, 0, 2));
        int changes = text.office().changes();
        for (int states = 0; states < Math.pow(3, changes); states++) {
            Story story = text;
            int rest = states;
            for (int k = 0; k < changes; k++) {
                int change = k;
                int state = rest % 3;
                rest /= 3;
                if (state > 0) {
                    story = story.then(x -> state == 1 ? x.accept(change) : x.refuse(change));
                }
            }
            story.answers("53: states " + states, true, x -> x.isSound());
            story.answers("12: refusing all gives the old text, states " + states, oldText(story), FiguresEdgesTest::allRefused);
        }
    }

    private static String oldText(Story story) {
        return Check.old(story.office());
    }

    private static Object allRefused(SealOffice x) {
        x.judge(-1, false);
        return Check.text(x);
    }
}
