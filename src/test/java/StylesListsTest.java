import java.util.NoSuchElementException;

/** Promises 26 to 35: styles, lists, and the line. */
public final class StylesListsTest {
    private static final Class<IndexOutOfBoundsException> BOUNDS = IndexOutOfBoundsException.class;
    private static final Class<IllegalArgumentException> ARGUMENT = IllegalArgumentException.class;
    private static final Class<UnsupportedOperationException> UNSUPPORTED = UnsupportedOperationException.class;

    public static void main(String[] args) {
        addStyle();
        styleOf();
        isBold();
        setList();
        restart();
        kinds();
        legal();
        numbers();
        levels();
        listsApart();
        writeNumber();
        Check.end();
    }

    private static void addStyle() {
        SealOffice x = new SealOffice();
        Check.fails("26: parent 1", ARGUMENT, () -> x.addStyle(1, true, 0));
        Check.fails("26: parent -2", ARGUMENT, () -> x.addStyle(-2, true, 0));
        Check.fails("26: keeps 2", ARGUMENT, () -> x.addStyle(0, true, 2));
        Check.fails("26: keeps -2", ARGUMENT, () -> x.addStyle(0, true, -2));
        for (int style = 1; style < 8; style++) {
            Check.due("26: number", x.addStyle(style % 2 == 0 ? -1 : style - 1, true, style % 3 - 1), style);
        }
        Check.fails("26: 8 styles", IllegalStateException.class, () -> x.addStyle(7, true, 0));
        Check.fails("26: a wrong parent goes ahead", ARGUMENT, () -> x.addStyle(8, true, 0));
        Check.fails("26: a wrong number goes ahead", ARGUMENT, () -> x.addStyle(0, true, 2));
    }

    private static void styleOf() {
        SealOffice x = Check.plain("a/b");
        x.addStyle(0, false, 0);
        x.setStyle(0, 1, 1);
        Check.due("27: first", x.styleOf(0), 0);
        Check.due("27: last", x.styleOf(1), 1);
        Check.fails("27: -1", BOUNDS, () -> x.styleOf(-1));
        Check.fails("27: 2", BOUNDS, () -> x.styleOf(2));
        x.erase(0, 1, 2);
        Check.due("27: joined, the end that is seen", x.styleOf(0), 1);
    }

    private static void isBold() {
        SealOffice x = new SealOffice();
        x.addStyle(0, true, -1);
        x.addStyle(1, false, -1);
        x.addStyle(2, true, -1);
        x.addStyle(3, true, -1);
        x.addStyle(-1, true, -1);
        boolean[] bold = {false, true, true, false, true, true};
        for (int style = 0; style < bold.length; style++) {
            x.setStyle(0, 0, style);
            Check.due("28: style " + style, x.isBold(0), bold[style]);
        }
        Check.fails("28: -1", BOUNDS, () -> x.isBold(-1));
        Check.fails("28: 1", BOUNDS, () -> x.isBold(1));
    }

    private static void setList() {
        SealOffice x = Check.plain("a/b");
        Check.due("29: none before", x.setList(0, 2, 1), -1);
        Check.due("29: before", x.setList(0, 0, 0), 2);
        Check.due("29: level has no meaning", x.setList(0, -1, 99), 0);
        Check.due("29: taken out", x.setList(0, 1, 2), -1);
        x.protect(0, true);
        Check.fails("29: -1", BOUNDS, () -> x.setList(-1, 5, 0));
        Check.fails("29: 2", BOUNDS, () -> x.setList(2, 0, 0));
        Check.fails("29: list 3", ARGUMENT, () -> x.setList(0, 3, 0));
        Check.fails("29: list -2", ARGUMENT, () -> x.setList(1, -2, 0));
        Check.fails("29: level 3", ARGUMENT, () -> x.setList(0, 0, 3));
        Check.fails("29: level -1", ARGUMENT, () -> x.setList(1, 0, -1));
        Check.fails("29: protected", UNSUPPORTED, () -> x.setList(0, -1, 0));
        x.undo();
        x.undo();
        Check.due("29: undone", x.numberOf(0), 0);
    }

    private static void restart() {
        SealOffice x = Check.plain("a/b");
        Check.due("30: none before", x.restart(0, 99), 0);
        Check.due("30: before", x.restart(0, 1), 99);
        x.setList(0, 0, 0);
        x.setList(1, 0, 0);
        Check.due("30: number", x.numberOf(0), 1);
        Check.due("30: it stays", x.restart(0, 41), 1);
        Check.due("30: the number", x.numberOf(0), 41);
        Check.due("30: counted on", x.numberOf(1), 42);
        Check.due("30: ended", x.restart(0, 0), 41);
        Check.due("30: as without", x.numberOf(0), 1);
        x.protect(1, true);
        Check.fails("30: -1", BOUNDS, () -> x.restart(-1, 100));
        Check.fails("30: 2", BOUNDS, () -> x.restart(2, 1));
        Check.fails("30: number 100", ARGUMENT, () -> x.restart(1, 100));
        Check.fails("30: number -1", ARGUMENT, () -> x.restart(0, -1));
        Check.fails("30: protected", UNSUPPORTED, () -> x.restart(1, 1));
        Check.due("30: not protected", x.restart(0, 2), 0);
    }

    private static void kinds() {
        SealOffice x = new SealOffice();
        Check.due("31: at first", x.setKind(0, 0, 'a'), 'd');
        Check.due("31: before", x.setKind(0, 0, 'r'), 'a');
        Check.due("31: another level", x.setKind(0, 1, 'r'), 'd');
        Check.due("31: another list", x.setKind(1, 0, 'd'), 'd');
        Check.due("31: the first one", x.setKind(0, 0, 'd'), 'r');
        Check.fails("31: list 3", ARGUMENT, () -> x.setKind(3, 0, 'd'));
        Check.fails("31: list -1", ARGUMENT, () -> x.setKind(-1, 0, 'd'));
        Check.fails("31: level 3", ARGUMENT, () -> x.setKind(0, 3, 'd'));
        Check.fails("31: level -1", ARGUMENT, () -> x.setKind(1, -1, 'd'));
        Check.fails("31: kind", ARGUMENT, () -> x.setKind(0, 0, 'b'));
    }

    private static void legal() {
        SealOffice x = Check.plain("/");
        x.setKind(0, 0, 'r');
        x.setKind(0, 1, 'a');
        x.setList(0, 0, 0);
        x.setList(1, 0, 1);
        x.restart(1, 4);
        Check.due("32: not legal", Check.number(x, 1), "i.d");
        Check.due("32: was not", x.setLegal(0, true), false);
        Check.due("32: legal", Check.number(x, 1), "1.4");
        Check.due("32: was", x.setLegal(0, false), true);
        Check.due("32: the other list", x.setLegal(1, true), false);
        Check.due("32: not any more", Check.number(x, 1), "i.d");
        Check.fails("32: list 3", ARGUMENT, () -> x.setLegal(3, true));
        Check.fails("32: list -1", ARGUMENT, () -> x.setLegal(-1, true));
    }

    private static void numbers() {
        SealOffice x = Check.plain("///");
        Check.due("33: in no list", x.numberOf(1), 0);
        for (int paragraph = 0; paragraph < 4; paragraph++) {
            x.setList(paragraph, 1, 1);
        }
        Check.due("33: first", x.numberOf(0), 1);
        Check.due("33: last", x.numberOf(3), 4);
        x.setList(1, -1, 0);
        Check.due("33: one between is out", x.numberOf(3), 3);
        x.erase(0, 0, 1);
        Check.due("33: an erased end is not counted", x.numberOf(2), 2);
        Check.fails("33: -1", BOUNDS, () -> x.numberOf(-1));
        Check.fails("33: 3", BOUNDS, () -> x.numberOf(3));
    }

    private static void levels() {
        SealOffice x = Check.plain("////////");
        int[] levels = {2, 0, 1, 1, 2, 0, 2, 1, 2};
        String[] written = {"1.1.1", "1", "1.1", "1.2", "1.2.1", "2", "2.1.1", "2.1", "2.1.1"};
        for (int paragraph = 0; paragraph < levels.length; paragraph++) {
            x.setList(paragraph, 2, levels[paragraph]);
        }
        for (int paragraph = 0; paragraph < levels.length; paragraph++) {
            Check.due("34: paragraph " + paragraph, Check.number(x, paragraph), written[paragraph]);
        }
        x.restart(1, 7);
        Check.due("34: a restart at a lower level", Check.number(x, 4), "7.2.1");
        Check.due("34: counted on", Check.number(x, 5), "8");
        x.restart(4, 9);
        x.restart(6, 0);
        Check.due("34: a restart at its own", Check.number(x, 4), "7.2.9");
    }

    private static void listsApart() {
        SealOffice x = Check.plain("/////");
        int[] lists = {0, 1, 0, 1, 2, 0};
        int[] levels = {1, 1, 1, 0, 1, 1};
        int[] numbers = {1, 1, 2, 1, 1, 3};
        for (int paragraph = 0; paragraph < lists.length; paragraph++) {
            x.setList(paragraph, lists[paragraph], levels[paragraph]);
        }
        for (int paragraph = 0; paragraph < lists.length; paragraph++) {
            Check.due("33: each list for itself", x.numberOf(paragraph), numbers[paragraph]);
        }
    }

    private static void writeNumber() {
        SealOffice x = Check.plain("a");
        Check.fails("34: in no list", NoSuchElementException.class, () -> x.writeNumber(0));
        Check.fails("34: -1", BOUNDS, () -> x.writeNumber(-1));
        Check.fails("34: 1", BOUNDS, () -> x.writeNumber(1));
        Check.fails("35: the line is empty at first", BOUNDS, () -> x.lineAt(0));
        x.setList(0, 0, 0);
        String[] letters = {"1 a", "26 z", "27 aa", "28 bb", "52 zz", "53 aaa", "78 zzz", "79 aaaa", "99 uuuu"};
        x.setKind(0, 0, 'a');
        writes(x, letters);
        String[] roman = {"1 i", "3 iii", "4 iv", "5 v", "8 viii", "9 ix", "10 x", "14 xiv", "39 xxxix", "40 xl",
            "49 xlix", "50 l", "88 lxxxviii", "90 xc", "99 xcix"};
        x.setKind(0, 0, 'r');
        writes(x, roman);
        x.setKind(0, 0, 'd');
        writes(x, new String[] {"1 1", "9 9", "10 10", "99 99"});
        Check.fails("35: -1", BOUNDS, () -> x.lineAt(-1));
        x.setList(0, -1, 0);
        Check.fails("34: in no list", NoSuchElementException.class, () -> x.writeNumber(0));
        Check.due("35: the line stays", x.lineAt(1), '9');
        SealOffice y = Check.plain("/".repeat(199));
        y.setKind(0, 0, 'r');
        for (int paragraph = 0; paragraph < 200; paragraph++) {
            y.setList(paragraph, 0, 0);
        }
        y.restart(0, 99);
        Check.due("34: 298", Check.number(y, 199), "ccxcviii");
        y.setKind(0, 0, 'a');
        Check.due("34: 298", Check.number(y, 199), "llllllllllll");
        y.setLegal(0, true);
        Check.due("34: 298", Check.number(y, 199), "298");
    }

    private static void writes(SealOffice x, String[] rows) {
        for (String row : rows) {
            String[] pair = row.split(" ");
            x.restart(0, Integer.parseInt(pair[0]));
            Check.due("34: " + pair[0], Check.number(x, 0), pair[1]);
        }
    }
}
