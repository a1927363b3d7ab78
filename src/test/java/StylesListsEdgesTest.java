/** Promises 26 to 35, and the terms styles and lists: each sentence that names an edge. */
public final class StylesListsEdgesTest {
    private static final Story EMPTY = new Story();
    private static final int LEAST = Integer.MIN_VALUE;
    private static final int MOST = Integer.MAX_VALUE;
    private static final String[] ONES = {"", "i", "ii", "iii", "iv", "v", "vi", "vii", "viii", "ix"};
    private static final String[] TENS = {"", "x", "xx", "xxx", "xl", "l", "lx", "lxx", "lxxx", "xc"};
    private static final String[] HUNDREDS = {"", "c", "cc"};

    public static void main(String[] args) {
        addStyle();
        addStyleRefuses();
        wrongParagraphs();
        isBold();
        firstStyle();
        setList();
        setListRefuses();
        restart();
        restartRefuses();
        setKind();
        setLegal();
        numberOf();
        numbersOfLevels();
        numbersOfHigherLevels();
        numbersOfLists();
        numbersOfRestarts();
        numbersOfWhatIsSeen();
        writeNumber();
        lineAt();
        allNumbers();
        Check.end();
    }

    private static void addStyle() {
        for (int parent = -1; parent <= 0; parent++) {
            for (int keeps = -1; keeps <= 1; keeps++) {
                int on = parent;
                int kept = keeps;
                EMPTY.answers("26: based on " + on + ", keeps " + kept, 1, x -> x.addStyle(on, true, kept));
            }
        }
        Story seven = EMPTY.times(6, x -> x.addStyle(-1, false, 0));
        seven.answers("26: the 8th style, on the last one", 7, x -> x.addStyle(6, true, 1));
        Story eight = seven.then(x -> x.addStyle(6, true, 1));
        eight.badState("26: the 9th", x -> x.addStyle(-1, true, 0));
        eight.badState("26: the 9th, on the 8th", x -> x.addStyle(7, true, 1));
        eight.badArgument("26: no such style ahead of the 9th", x -> x.addStyle(8, true, 1));
        eight.badArgument("26: no such style ahead of the 9th", x -> x.addStyle(-2, true, 1));
        eight.badArgument("26: a number out of range ahead of the 9th", x -> x.addStyle(0, true, 2));
        eight.badArgument("26: a number out of range ahead of the 9th", x -> x.addStyle(0, true, -2));
        eight.answers("6: the last one can be set", 0, x -> x.setStyle(0, 0, 7));
        Story undone = EMPTY.then(x -> x.insert(0, 0, 'a')).then(x -> x.addStyle(0, true, 0)).then(x -> x.undo());
        undone.answers("8: what is undone is the edit ahead", 0, x -> x.length());
        undone.answers("26: a style stays", 2, x -> x.addStyle(1, true, 0));
    }

    private static void addStyleRefuses() {
        Story two = EMPTY.then(x -> x.addStyle(0, true, 0));
        for (int parent : new int[] {-2, 2, LEAST, MOST}) {
            two.badArgument("26: parent " + parent, x -> x.addStyle(parent, true, 0));
        }
        for (int keeps : new int[] {-2, 2, LEAST, MOST}) {
            two.badArgument("26: keeps " + keeps, x -> x.addStyle(0, false, keeps));
            two.badArgument("26: keeps " + keeps + ", based on none", x -> x.addStyle(-1, false, keeps));
        }
        two.answers("26: on the last one", 2, x -> x.addStyle(1, true, 0));
        EMPTY.badArgument("26: on itself", x -> x.addStyle(1, true, 0));
    }

    private static void wrongParagraphs() {
        Story two = Story.plain("a/b").then(x -> x.setList(1, 0, 0));
        for (int wrong : new int[] {-1, 2, LEAST, MOST}) {
            two.outOfBounds("27: paragraph " + wrong, x -> x.styleOf(wrong));
            two.outOfBounds("28: paragraph " + wrong, x -> x.isBold(wrong));
            two.outOfBounds("29: paragraph " + wrong, x -> x.setList(wrong, 0, 0));
            two.outOfBounds("30: paragraph " + wrong, x -> x.restart(wrong, 1));
            two.outOfBounds("33: paragraph " + wrong, x -> x.numberOf(wrong));
            two.outOfBounds("34: paragraph " + wrong, x -> x.writeNumber(wrong));
        }
        EMPTY.outOfBounds("27: a new one has one paragraph", x -> x.styleOf(1));
        EMPTY.outOfBounds("28: a new one has one paragraph", x -> x.isBold(1));
        EMPTY.outOfBounds("33: a new one has one paragraph", x -> x.numberOf(1));
        EMPTY.outOfBounds("34: a new one has one paragraph", x -> x.writeNumber(1));
        two.answers("27: the last one", 0, x -> x.styleOf(1));
        two.answers("28: the last one", false, x -> x.isBold(1));
        two.answers("33: the last one", 1, x -> x.numberOf(1));
        two.answers("34: the last one", 1, x -> x.writeNumber(1));
        Story joined = two.then(x -> x.erase(0, 1, 2));
        joined.outOfBounds("27: one that is not seen", x -> x.styleOf(1));
        joined.outOfBounds("33: one that is not seen", x -> x.numberOf(1));
        Story ends = Story.plain("/".repeat(200));
        ends.answers("27: the 201st", 0, x -> x.styleOf(200));
        ends.outOfBounds("27: the 202nd", x -> x.styleOf(201));
    }

    private static void isBold() {
        Story chain = EMPTY;
        for (int k = 0; k < 7; k++) {
            int parent = k;
            chain = chain.then(x -> x.addStyle(parent, true, -1));
        }
        for (int k = 0; k < 8; k++) {
            int style = k;
            Story set = chain.then(x -> x.setStyle(0, 0, style));
            set.answers("28: " + k + " turn bold around", k % 2 == 1, x -> x.isBold(0));
            set.answers("27: it is set", k, x -> x.styleOf(0));
        }
        Story alone = EMPTY.then(x -> x.addStyle(-1, true, 0)).then(x -> x.addStyle(-1, false, 0))
                .then(x -> x.addStyle(1, false, 0)).then(x -> x.addStyle(2, true, 0));
        boolean[] bold = {false, true, false, true, true};
        for (int k = 0; k < bold.length; k++) {
            int style = k;
            alone.then(x -> x.setStyle(0, 0, style)).answers("28: style " + k, bold[k], x -> x.isBold(0));
        }
    }

    private static void firstStyle() {
        Story text = Story.plain("a/b/c");
        for (int k = 0; k < 3; k++) {
            int paragraph = k;
            text.answers("27: the style 0 at first", 0, x -> x.styleOf(paragraph));
            text.answers("28: it does not turn bold around", false, x -> x.isBold(paragraph));
        }
        Story narrow = text.then(x -> x.setPage(5, 2));
        narrow.answers("46: it does not keep", 0, x -> x.lineOf(4));
        narrow.answers("46: it does not keep", 1, x -> x.lineOf(2));
        Story told = narrow.then(x -> x.addStyle(0, false, -1)).then(x -> x.setStyle(0, 1, 1));
        told.answers("26: told by the style 0, it does not keep", 1, x -> x.lineOf(2));
        Story none = narrow.then(x -> x.addStyle(-1, false, -1)).then(x -> x.setStyle(0, 1, 1));
        none.answers("26: told by none, it does not keep", 1, x -> x.lineOf(2));
    }

    private static void setList() {
        Story text = Story.plain("a/b");
        for (int k = 0; k < 3; k++) {
            int list = k;
            for (int m = 0; m < 3; m++) {
                int level = m;
                text.answers("29: in none before", -1, x -> x.setList(1, list, level));
                Story put = text.then(x -> x.setList(1, list, level));
                put.answers("29: before", list, x -> x.setList(1, 0, 0));
                put.answers("33: it is the first one", 1, x -> x.numberOf(1));
                put.answers("34: its levels", 2 * level + 1, x -> x.writeNumber(1));
                put.answers("33: the other one is in none", 0, x -> x.numberOf(0));
                put.then(x -> x.setList(1, -1, level)).answers("33: taken out", 0, x -> x.numberOf(1));
            }
        }
        for (int level : new int[] {-1, 3, LEAST, MOST}) {
            text.answers("29: of no meaning for none: " + level, -1, x -> x.setList(0, -1, level));
        }
        text.then(x -> x.setList(0, -1, 0)).answers("29: also that is an edit", 3, x -> x.undo());
        text.then(x -> x.setList(0, 1, 1)).then(x -> x.undo()).answers("29: undone", -1, x -> x.setList(0, 0, 0));
    }

    private static void setListRefuses() {
        Story text = Story.plain("a/b").then(x -> x.setList(0, 1, 1));
        for (int wrong : new int[] {-2, 3, LEAST, MOST}) {
            text.badArgument("29: list " + wrong, x -> x.setList(0, wrong, 0));
        }
        for (int wrong : new int[] {-1, 3, LEAST, MOST}) {
            text.badArgument("29: level " + wrong, x -> x.setList(0, 0, wrong));
            text.badArgument("29: both wrong", x -> x.setList(0, 3, wrong));
            text.outOfBounds("29: paragraph ahead of level", x -> x.setList(2, 0, wrong));
        }
        text.outOfBounds("29: paragraph ahead of list", x -> x.setList(-1, 3, 0));
        Story guarded = text.then(x -> x.protect(0, true));
        guarded.unsupported("29: protected", x -> x.setList(0, 0, 0));
        guarded.unsupported("29: protected, taking it out", x -> x.setList(0, -1, 9));
        guarded.badArgument("29: list ahead of protection", x -> x.setList(0, -2, 0));
        guarded.badArgument("29: level ahead of protection", x -> x.setList(0, 0, 3));
        guarded.outOfBounds("29: paragraph ahead of all", x -> x.setList(2, -2, 3));
        guarded.answers("29: the other one is not protected", -1, x -> x.setList(1, 0, 0));
    }

    private static void restart() {
        Story text = Story.plain("a/b").then(x -> x.setList(0, 0, 0)).then(x -> x.setList(1, 0, 0));
        for (int number : new int[] {1, 2, 98, 99}) {
            text.answers("30: none before", 0, x -> x.restart(0, number));
            Story begun = text.then(x -> x.restart(0, number));
            begun.answers("33: its number", number, x -> x.numberOf(0));
            begun.answers("33: the next one's", number + 1, x -> x.numberOf(1));
            begun.answers("30: before", number, x -> x.restart(0, 5));
            begun.answers("30: the other one has none", 0, x -> x.restart(1, 5));
            Story ended = begun.then(x -> x.restart(0, 0));
            ended.answers("30: ended", 0, x -> x.restart(0, 0));
            ended.answers("33: as without", 1, x -> x.numberOf(0));
        }
        text.then(x -> x.restart(0, 0)).answers("30: also none is an edit", 5, x -> x.undo());
        Story none = Story.plain("a").then(x -> x.restart(0, 4));
        none.answers("30: in no list, it has no number", 0, x -> x.numberOf(0));
        none.then(x -> x.setList(0, 2, 2)).answers("30: in a list, it begins with it", 4, x -> x.numberOf(0));
    }

    private static void restartRefuses() {
        Story text = Story.plain("a/b").then(x -> x.restart(0, 7));
        for (int number : new int[] {-1, 100, LEAST, MOST}) {
            text.badArgument("30: number " + number, x -> x.restart(0, number));
            text.outOfBounds("30: paragraph ahead of number", x -> x.restart(2, number));
        }
        Story guarded = text.then(x -> x.protect(1, true));
        guarded.unsupported("30: protected", x -> x.restart(1, 99));
        guarded.unsupported("30: protected, none", x -> x.restart(1, 0));
        guarded.badArgument("30: number ahead of protection", x -> x.restart(1, 100));
        guarded.outOfBounds("30: paragraph ahead of protection", x -> x.restart(-1, 1));
        guarded.answers("30: the other one is not protected", 7, x -> x.restart(0, 1));
    }

    private static void setKind() {
        char[] kinds = {'a', 'r', 'd'};
        for (int k = 0; k < 9; k++) {
            int at = k;
            for (char kind : kinds) {
                Story set = EMPTY.then(x -> x.setKind(at / 3, at % 3, kind));
                for (int m = 0; m < 9; m++) {
                    int other = m;
                    set.answers("31: each for itself", m == k ? kind : 'd', x -> x.setKind(other / 3, other % 3, 'd'));
                }
            }
        }
        Story set = EMPTY.then(x -> x.setKind(2, 2, 'r'));
        for (int wrong : new int[] {-1, 3, LEAST, MOST}) {
            set.badArgument("31: list " + wrong, x -> x.setKind(wrong, 0, 'a'));
            set.badArgument("31: level " + wrong, x -> x.setKind(0, wrong, 'a'));
        }
        for (char kind : new char[] {'a' - 1, 'b', 'c', 'e', 'q', 's', 'A', 'D', 'R', 'i', ' ', 0, 0x100 + 'a'}) {
            set.badArgument("31: kind " + (int) kind, x -> x.setKind(2, 2, kind));
        }
        Check.due("31: no other kind is taken", EMPTY.signsTaken((z, kind) -> z.setKind(0, 0, kind)), "adr");
        EMPTY.then(x -> x.insert(0, 0, 'a')).then(x -> x.setKind(0, 0, 'r')).then(x -> x.undo())
                .answers("31: it is not undone", 'r', x -> x.setKind(0, 0, 'a'));
    }

    private static void setLegal() {
        for (int k = 0; k < 3; k++) {
            int list = k;
            Story legal = EMPTY.then(x -> x.setLegal(list, true));
            for (int m = 0; m < 3; m++) {
                int other = m;
                legal.answers("32: each for itself", m == k, x -> x.setLegal(other, true));
            }
            legal.then(x -> x.setLegal(list, false)).answers("32: ended", false, x -> x.setLegal(list, false));
        }
        for (int wrong : new int[] {-1, 3, LEAST, MOST}) {
            EMPTY.badArgument("32: list " + wrong, x -> x.setLegal(wrong, true));
        }
        Story three = Story.plain("//").then(x -> x.setList(0, 1, 0)).then(x -> x.setList(1, 1, 1)).then(x -> x.setList(2, 1, 2))
                .then(x -> x.setKind(1, 0, 'r')).then(x -> x.setKind(1, 1, 'a')).then(x -> x.setKind(1, 2, 'r'))
                .then(x -> x.restart(0, 4)).then(x -> x.restart(1, 27)).then(x -> x.restart(2, 9));
        writes(three, 2, "iv.aa.ix");
        writes(three.then(x -> x.setLegal(1, true)), 2, "4.27.9");
        writes(three.then(x -> x.setLegal(0, true)), 2, "iv.aa.ix");
        writes(three.then(x -> x.setLegal(1, true)).then(x -> x.setLegal(1, false)), 2, "iv.aa.ix");
        three.then(x -> x.setLegal(1, true)).answers("31: its kinds stay", 'a', x -> x.setKind(1, 1, 'd'));
    }

    private static void writes(Story story, int paragraph, String line) {
        Check.due("34: paragraph " + paragraph, Check.number(story.office(), paragraph), line);
    }

    // Paragraphs of these levels, all in the list 0.
    private static Story levels(int... levels) {
        Story story = Story.plain("/".repeat(levels.length - 1));
        for (int k = 0; k < levels.length; k++) {
            int paragraph = k;
            story = story.then(x -> x.setList(paragraph, 0, levels[paragraph]));
        }
        return story;
    }

    private static void numberOf() {
        EMPTY.answers("33: in no list", 0, x -> x.numberOf(0));
        EMPTY.then(x -> x.setList(0, 0, 0)).answers("33: the only one", 1, x -> x.numberOf(0));
        EMPTY.then(x -> x.setList(0, 2, 2)).answers("33: the only one, of the last level", 1, x -> x.numberOf(0));
        Story four = levels(0, 0, 0, 0);
        for (int k = 0; k < 4; k++) {
            int paragraph = k;
            four.answers("33: paragraph " + k, k + 1, x -> x.numberOf(paragraph));
        }
        Story out = four.then(x -> x.setList(1, -1, 0));
        out.answers("33: out of it", 0, x -> x.numberOf(1));
        out.answers("33: the next one follows on", 2, x -> x.numberOf(2));
    }

    private static void numbersOfLevels() {
        int[] levels = {1, 1, 0, 1, 2, 2, 1, 0, 2, 1, 2, 0, 1};
        int[] numbers = {1, 2, 1, 1, 1, 2, 2, 2, 1, 1, 1, 3, 1};
        Story story = levels(levels);
        for (int k = 0; k < levels.length; k++) {
            int paragraph = k;
            story.answers("33: paragraph " + k, numbers[k], x -> x.numberOf(paragraph));
        }
        Story back = levels(2, 2, 1, 2, 0, 2);
        int[] third = {1, 2, 1, 1, 1, 1};
        for (int k = 0; k < third.length; k++) {
            int paragraph = k;
            back.answers("33: behind any lower level it is 1 again, " + k, third[k], x -> x.numberOf(paragraph));
        }
        levels(0, 2, 2, 0).answers("33: a higher level does not matter", 2, x -> x.numberOf(3));
    }

    private static void numbersOfHigherLevels() {
        writes(levels(0), 0, "1");
        writes(levels(1), 0, "1.1");
        writes(levels(2), 0, "1.1.1");
        writes(levels(0, 0, 1, 1, 2, 2, 2), 6, "2.2.3");
        writes(levels(0, 0, 2), 2, "2.1.1");
        writes(levels(1, 1, 2), 2, "1.2.1");
        writes(levels(2, 1), 1, "1.1");
        writes(levels(2, 0), 1, "1");
        writes(levels(1, 0), 1, "1");
        writes(levels(0, 1, 1, 0, 1), 4, "2.1");
    }

    private static void numbersOfLists() {
        Story story = Story.plain("/////");
        int[] lists = {0, 1, 2, 0, 1, 2};
        int[] levels = {1, 0, 1, 1, 1, 0};
        int[] numbers = {1, 1, 1, 2, 1, 1};
        for (int k = 0; k < lists.length; k++) {
            int paragraph = k;
            story = story.then(x -> x.setList(paragraph, lists[paragraph], levels[paragraph]));
        }
        for (int k = 0; k < lists.length; k++) {
            int paragraph = k;
            story.answers("33: each list for itself, " + k, numbers[k], x -> x.numberOf(paragraph));
        }
        writes(story, 3, "1.2");
        writes(story, 4, "1.1");
    }

    private static void numbersOfRestarts() {
        Story story = levels(0, 1, 1, 0, 1);
        Story second = story.then(x -> x.restart(2, 1));
        second.answers("30: it begins with 1 again", 1, x -> x.numberOf(2));
        Story lower = story.then(x -> x.restart(3, 99));
        writes(lower, 3, "99");
        writes(lower, 4, "99.1");
        lower.answers("33: behind a restart of a lower level it is 1", 1, x -> x.numberOf(4));
        Story higher = story.then(x -> x.restart(4, 50));
        writes(higher, 4, "2.50");
        levels(0, 0).then(x -> x.restart(0, 99)).answers("33: one more than the last restart", 100, x -> x.numberOf(1));
        Story moved = levels(0, 0, 0).then(x -> x.restart(1, 10)).then(x -> x.setList(1, -1, 0));
        moved.answers("33: a restart in no list does not matter", 2, x -> x.numberOf(2));
    }

    private static void numbersOfWhatIsSeen() {
        Story story = levels(0, 0, 0).then(x -> x.restart(0, 10));
        Story erased = story.then(x -> x.erase(1, 0, 1));
        erased.answers("33: one that is not seen is not counted", 1, x -> x.numberOf(0));
        erased.then(x -> x.refuse(0)).answers("33: there again", 11, x -> x.numberOf(1));
        erased.then(x -> x.accept(0)).answers("33: gone", 2, x -> x.numberOf(1));
        Story written = story.then(x -> x.insert(2, 1, '/'));
        written.answers("33: one that was written is counted", 11, x -> x.numberOf(1));
        written.answers("33: the next one", 12, x -> x.numberOf(2));
        Story lower = levels(1, 0, 1).then(x -> x.erase(0, 1, 2));
        lower.answers("33: a lower level that is not seen is not between", 2, x -> x.numberOf(1));
    }

    private static void writeNumber() {
        EMPTY.noElement("34: in no list", x -> x.writeNumber(0));
        Story one = Story.plain("a/b").then(x -> x.setList(0, 0, 0)).then(x -> x.restart(0, 88)).then(x -> x.setKind(0, 0, 'r'));
        one.noElement("34: the other one is in no list", x -> x.writeNumber(1));
        writes(one, 0, "lxxxviii");
        Story written = one.then(x -> x.writeNumber(0));
        written.noElement("34: in no list, the line stays", x -> x.writeNumber(1));
        written.outOfBounds("34: no such one, the line stays", x -> x.writeNumber(2));
        Story shorter = written.then(x -> x.restart(0, 1)).then(x -> x.writeNumber(0));
        shorter.answers("35: in place of what was there", 'i', x -> x.lineAt(0));
        shorter.outOfBounds("35: of which nothing is left", x -> x.lineAt(1));
        one.answers("34: its length", 8, x -> x.writeNumber(0));
        written.then(x -> x.setList(0, -1, 0)).answers("35: written once, it stays", 'l', x -> x.lineAt(0));
        written.then(x -> x.undo()).answers("35: it is not undone", 'i', x -> x.lineAt(7));
    }

    private static void lineAt() {
        for (int index : new int[] {-1, 0, 1, LEAST, MOST}) {
            EMPTY.outOfBounds("35: empty at first, " + index, x -> x.lineAt(index));
        }
        Story line = levels(0, 1).then(x -> x.restart(1, 12)).then(x -> x.writeNumber(1));
        char[] signs = {'1', '.', '1', '2'};
        for (int k = 0; k < signs.length; k++) {
            int index = k;
            line.answers("35: index " + k, signs[k], x -> x.lineAt(index));
        }
        for (int index : new int[] {-1, 4, 5, LEAST, MOST}) {
            line.outOfBounds("35: index " + index, x -> x.lineAt(index));
        }
    }

    // 201 paragraphs, of which the first begins with 99: 299 is the greatest number of all.
    private static void allNumbers() {
        Story list = EMPTY.then(x -> x.setTracking(false)).then(x -> x.setList(0, 0, 0));
        Story story = list.times(200, x -> x.insert(0, 0, '/')).then(x -> x.restart(0, 99));
        Story low = list.times(98, x -> x.insert(0, 0, '/'));
        for (int number = 1; number <= 299; number++) {
            Story base = number < 99 ? low : story;
            int paragraph = number < 99 ? number - 1 : number - 99;
            base.answers("33: number " + number, number, x -> x.numberOf(paragraph));
            writes(base, paragraph, String.valueOf(number));
            writes(base.then(x -> x.setKind(0, 0, 'a')), paragraph, letters(number));
            writes(base.then(x -> x.setKind(0, 0, 'r')), paragraph, HUNDREDS[number / 100] + TENS[number / 10 % 10] + ONES[number % 10]);
        }
        String[] pairs = {"26 z", "27 aa", "28 bb", "52 zz", "53 aaa", "78 zzz", "79 aaaa", "99 uuuu"};
        for (String pair : pairs) {
            int number = Integer.parseInt(pair.substring(0, 2));
            writes(EMPTY.then(x -> x.setList(0, 0, 0)).then(x -> x.restart(0, number)).then(x -> x.setKind(0, 0, 'a')), 0,
                    pair.substring(3));
        }
    }

    private static String letters(int number) {
        int rest = number;
        int times = 1;
        while (rest > 26) {
            rest -= 26;
            times++;
        }
        return String.valueOf((char) ('a' + rest - 1)).repeat(times);
    }
}
