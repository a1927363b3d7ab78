/** Promises 10 to 16, and the term units: each sentence that names an edge. */
public final class TextEdgesTest {
    private static final Story EMPTY = new Story();
    private static final int LEAST = Integer.MIN_VALUE;
    private static final int MOST = Integer.MAX_VALUE;

    public static void main(String[] args) {
        length();
        unitAt();
        oldLength();
        oldAt();
        paragraphs();
        paragraphOf();
        startOf();
        joinedParagraphs();
        newEnds();
        newEndsAtTheBorders();
        Check.end();
    }

    private static void length() {
        EMPTY.answers("10: none", 0, x -> x.length());
        EMPTY.then(x -> x.insert(0, 0, 'a')).answers("10: one", 1, x -> x.length());
        EMPTY.then(x -> x.insert(0, 0, '/')).answers("10: an end is one", 1, x -> x.length());
        EMPTY.then(x -> x.addField(0, 0, 'c', 0)).answers("10: a field is one", 1, x -> x.length());
        Story full = Story.plain("a".repeat(200));
        full.answers("10: as many as there may be", 200, x -> x.length());
        full.then(x -> x.erase(0, 0, 200)).answers("10: all erased", 0, x -> x.length());
        full.then(x -> x.erase(0, 0, 199)).answers("10: all but one", 1, x -> x.length());
        full.then(x -> x.erase(0, 0, 200)).then(x -> x.refuse(0)).answers("10: all there again", 200, x -> x.length());
    }

    private static void unitAt() {
        Story text = Story.plain("a z/").then(x -> x.addField(0, 4, 'c', 0));
        char[] units = {'a', ' ', 'z', '/', '@'};
        for (int k = 0; k < units.length; k++) {
            int place = k;
            text.answers("11: place " + k, units[k], x -> x.unitAt(place));
        }
        for (int place : new int[] {-1, 5, 6, LEAST, MOST}) {
            text.outOfBounds("11: place " + place, x -> x.unitAt(place));
        }
        EMPTY.outOfBounds("11: behind the only place there is no unit", x -> x.unitAt(0));
        Story erased = text.then(x -> x.erase(1, 0, 4));
        erased.answers("11: the first one that is seen", '@', x -> x.unitAt(0));
        erased.outOfBounds("11: behind the last one that is seen", x -> x.unitAt(1));
        Story tail = text.then(x -> x.erase(1, 2, 5));
        tail.answers("11: the last one that is seen", ' ', x -> x.unitAt(1));
        tail.outOfBounds("11: erased ones have no place", x -> x.unitAt(2));
        Story full = Story.plain("a".repeat(199) + "b");
        full.answers("11: the 200th", 'b', x -> x.unitAt(199));
        full.outOfBounds("11: the 201st", x -> x.unitAt(200));
    }

    private static void oldLength() {
        EMPTY.answers("12: none", 0, x -> x.oldLength());
        Story written = EMPTY.type(0, 0, "ab");
        written.answers("12: what waits is not old", 0, x -> x.oldLength());
        written.then(x -> x.accept(0)).answers("12: what was accepted is", 2, x -> x.oldLength());
        written.then(x -> x.refuse(0)).answers("12: what was refused is gone", 0, x -> x.oldLength());
        Story erased = Story.plain("abc").then(x -> x.erase(0, 0, 3));
        erased.answers("12: what an erasing that waits has erased is old", 3, x -> x.oldLength());
        erased.answers("10: though none is seen", 0, x -> x.length());
        erased.then(x -> x.accept(0)).answers("12: accepted, it is gone", 0, x -> x.oldLength());
        Story both = written.then(x -> x.erase(1, 0, 1));
        both.answers("12: written and erased, it is not old", 0, x -> x.oldLength());
        both.then(x -> x.accept(0)).answers("12: its writing accepted, it is", 2, x -> x.oldLength());
        both.then(x -> x.accept(1)).then(x -> x.accept(0)).answers("12: one is gone", 1, x -> x.oldLength());
        Story.plain("a".repeat(200)).answers("12: as many as there may be", 200, x -> x.oldLength());
        Story.plain("ab").then(x -> x.setStyle(0, 0, 0)).answers("12: a style changes nothing of it", 2, x -> x.oldLength());
    }

    private static void oldAt() {
        Story text = Story.plain("ab/").type(0, 1, "xy").then(x -> x.erase(1, 0, 1));
        char[] units = {'a', 'b', '/'};
        for (int k = 0; k < units.length; k++) {
            int index = k;
            text.answers("13: index " + k, units[k], x -> x.oldAt(index));
        }
        for (int index : new int[] {-1, 3, 4, LEAST, MOST}) {
            text.outOfBounds("13: index " + index, x -> x.oldAt(index));
        }
        EMPTY.outOfBounds("13: there is none", x -> x.oldAt(0));
        EMPTY.type(0, 0, "ab").outOfBounds("13: nothing is old", x -> x.oldAt(0));
        Story gone = Story.plain("ab").then(x -> x.erase(0, 0, 2));
        gone.answers("13: behind the last place that is seen", 'b', x -> x.oldAt(1));
        gone.outOfBounds("13: behind the last old one", x -> x.oldAt(2));
        gone.then(x -> x.accept(0)).outOfBounds("13: they are gone", x -> x.oldAt(0));
        Story field = EMPTY.then(x -> x.addField(0, 0, 'c', 0)).then(x -> x.accept(0));
        field.answers("13: a field", '@', x -> x.oldAt(0));
        Story full = Story.plain("a".repeat(199) + "b");
        full.answers("13: the 200th", 'b', x -> x.oldAt(199));
        full.outOfBounds("13: the 201st", x -> x.oldAt(200));
    }

    private static void paragraphs() {
        EMPTY.answers("14: one that is empty", 1, x -> x.paragraphs());
        Story.plain("a").answers("14: one", 1, x -> x.paragraphs());
        Story.plain("/").answers("14: an end, so two", 2, x -> x.paragraphs());
        Story ends = Story.plain("/".repeat(200));
        ends.answers("14: as many as there may be", 201, x -> x.paragraphs());
        ends.then(x -> x.erase(0, 0, 200)).answers("14: all ends erased but the last", 1, x -> x.paragraphs());
        ends.then(x -> x.erase(0, 0, 199)).answers("14: all but two", 2, x -> x.paragraphs());
        Story.plain("/").then(x -> x.erase(0, 0, 1)).then(x -> x.refuse(0)).answers("14: there again", 2, x -> x.paragraphs());
    }

    private static void paragraphOf() {
        Story text = Story.plain("a//b");
        int[] paragraphs = {0, 0, 1, 2, 2};
        for (int k = 0; k < paragraphs.length; k++) {
            int place = k;
            text.answers("15: place " + k, paragraphs[k], x -> x.paragraphOf(place));
        }
        for (int place : new int[] {-1, 5, LEAST, MOST}) {
            text.outOfBounds("15: place " + place, x -> x.paragraphOf(place));
        }
        EMPTY.answers("15: the only place", 0, x -> x.paragraphOf(0));
        EMPTY.outOfBounds("15: one behind it", x -> x.paragraphOf(1));
        Story ends = Story.plain("/".repeat(200));
        ends.answers("15: the last place of all", 200, x -> x.paragraphOf(200));
        ends.answers("15: the one ahead of it", 199, x -> x.paragraphOf(199));
        ends.outOfBounds("15: the one behind it", x -> x.paragraphOf(201));
        Story erased = text.then(x -> x.erase(0, 1, 3));
        erased.answers("15: behind erased ends", 0, x -> x.paragraphOf(2));
        erased.outOfBounds("15: behind the last place that is seen", x -> x.paragraphOf(3));
    }

    private static void startOf() {
        Story text = Story.plain("ab//c");
        int[] starts = {0, 3, 4};
        for (int k = 0; k < starts.length; k++) {
            int paragraph = k;
            text.answers("16: paragraph " + k, starts[k], x -> x.startOf(paragraph));
        }
        for (int paragraph : new int[] {-1, 3, LEAST, MOST}) {
            text.outOfBounds("16: paragraph " + paragraph, x -> x.startOf(paragraph));
        }
        EMPTY.answers("16: the only one", 0, x -> x.startOf(0));
        EMPTY.outOfBounds("16: one behind it", x -> x.startOf(1));
        Story ends = Story.plain("/".repeat(200));
        ends.answers("16: the last one of all", 200, x -> x.startOf(200));
        ends.outOfBounds("16: one behind it", x -> x.startOf(201));
        Story begin = text.then(x -> x.erase(0, 0, 3));
        begin.answers("16: the first one begins at 0, whatever is erased there", 0, x -> x.startOf(0));
        begin.answers("16: the next one", 1, x -> x.startOf(1));
        begin.outOfBounds("16: one end less is seen", x -> x.startOf(2));
        Story hidden = Story.plain("a/bc").then(x -> x.erase(0, 2, 3));
        hidden.answers("16: it begins ahead of the next unit that is seen", 2, x -> x.startOf(1));
    }

    // What a paragraph has is told by its style, by its number, and by whether it is protected.
    private static Story threeKinds() {
        return Story.plain("a/b/c").then(x -> x.addStyle(0, true, 0)).then(x -> x.addStyle(0, true, 0))
                .then(x -> x.setTracking(false)).then(x -> x.setStyle(0, 0, 1)).then(x -> x.setStyle(0, 1, 2))
                .then(x -> x.setList(0, 0, 0)).then(x -> x.setList(1, 0, 1)).then(x -> x.restart(0, 7))
                .then(x -> x.restart(1, 9)).then(x -> x.setTracking(true));
    }

    private static void joinedParagraphs() {
        Story text = threeKinds();
        Story first = text.then(x -> x.erase(0, 1, 2));
        first.answers("units: joined, the style of the next one", 2, x -> x.styleOf(0));
        first.answers("units: its number", 9, x -> x.numberOf(0));
        first.answers("units: its list and level", 3, x -> x.writeNumber(0));
        first.answers("units: its restart", 9, x -> x.restart(0, 1));
        first.then(x -> x.refuse(0)).answers("units: there again, its own style", 1, x -> x.styleOf(0));
        first.then(x -> x.accept(0)).answers("units: gone, the style of the next one", 2, x -> x.styleOf(0));
        Story both = text.then(x -> x.erase(0, 1, 4));
        both.answers("units: two ends gone, the style of the last one", 0, x -> x.styleOf(0));
        both.answers("units: no list", -1, x -> x.setList(0, 0, 0));
        both.answers("units: no restart", 0, x -> x.restart(0, 1));
        both.answers("units: not protected", false, x -> x.protect(0, true));
        Story guarded = first.then(x -> x.protect(0, true)).then(x -> x.accept(0));
        guarded.answers("units: gone, the protection of the next one", true, x -> x.protect(0, false));
        Story second = text.then(x -> x.setTracking(false)).then(x -> x.erase(0, 3, 4));
        second.answers("units: joined with the last one", 0, x -> x.styleOf(1));
        second.answers("units: the one ahead keeps its own", 1, x -> x.styleOf(0));
    }

    private static void newEnds() {
        Story text = threeKinds();
        for (int k = 2; k <= 3; k++) {
            int place = k;
            Story split = text.then(x -> x.insert(0, place, '/'));
            split.answers("units: a new end has the style", 2, x -> x.styleOf(1));
            split.answers("units: the one behind it keeps it", 2, x -> x.styleOf(2));
            split.answers("units: it has the list", 0, x -> x.setList(1, -1, 0));
            split.answers("units: it has the level", 3, x -> x.writeNumber(1));
            split.answers("units: no restart", 0, x -> x.restart(1, 5));
            split.answers("units: so it begins with 1", 1, x -> x.numberOf(1));
            split.answers("units: the one behind it keeps its restart", 9, x -> x.restart(2, 5));
            split.answers("units: the first one keeps its own", 1, x -> x.styleOf(0));
        }
        Story off = text.then(x -> x.setTracking(false)).then(x -> x.insert(0, 3, '/'));
        off.answers("units: the same untracked", 2, x -> x.styleOf(1));
        off.answers("units: no restart untracked", 0, x -> x.restart(1, 5));
        Story styled = text.then(x -> x.setStyle(3, 1, 1)).then(x -> x.insert(0, 3, '/'));
        styled.answers("units: it has the style that waits", 1, x -> x.styleOf(1));
        styled.answers("6: but not its change", 2, x -> x.setStyle(0, 1, 1));
        styled.answers("6: which is that of the old end", 0, x -> x.setStyle(0, 2, 1));
        styled.then(x -> x.refuse(0)).answers("units: refused, the new end has its style still", 1, x -> x.styleOf(1));
        styled.then(x -> x.refuse(0)).answers("units: the old one has that of before", 2, x -> x.styleOf(2));
    }

    private static void newEndsAtTheBorders() {
        Story text = threeKinds();
        text.then(x -> x.insert(0, 0, '/')).answers("units: at the begin, the style of the first one", 1, x -> x.styleOf(0));
        Story last = text.then(x -> x.setStyle(0, 2, 1)).then(x -> x.setList(2, 2, 0)).then(x -> x.insert(0, 5, '/'));
        last.answers("units: at the last place, the style of the last one", 1, x -> x.styleOf(2));
        last.answers("units: and its list", 2, x -> x.setList(2, -1, 0));
        last.answers("units: the last one has them still", 2, x -> x.setList(3, -1, 0));
        Story joined = text.then(x -> x.erase(1, 1, 2)).then(x -> x.insert(0, 0, '/'));
        joined.answers("units: in a joined paragraph, what that has", 2, x -> x.styleOf(0));
        joined.then(x -> x.refuse(0)).answers("units: also when the erased end is there again", 2, x -> x.styleOf(0));
        joined.then(x -> x.refuse(0)).answers("units: which has its own", 1, x -> x.styleOf(1));
        Story letters = text.then(x -> x.insert(0, 1, 'x')).then(x -> x.insert(0, 0, 'y'));
        letters.answers("units: a letter changes nothing of it", 1, x -> x.styleOf(0));
        letters.answers("units: nor of the restart", 7, x -> x.numberOf(0));
        Story guarded = text.then(x -> x.protect(0, true)).then(x -> x.protect(2, true)).then(x -> x.insert(0, 2, '/'));
        boolean[] protections = {true, false, false, true};
        for (int k = 0; k < protections.length; k++) {
            int paragraph = k;
            guarded.answers("units: a new end is not protected, those beside it may be", protections[k],
                    x -> x.protect(paragraph, false));
        }
    }
}
