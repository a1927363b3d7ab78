import java.util.ArrayList;
import java.util.List;

/** What the tests share: comparing, expecting exceptions, and offices with text in them. */
final class Check {
    private static int wrong = 0;

    interface Call {
        Object run();
    }

    private Check() {
    }

    static void due(String what, Object got, Object want) {
        if (!String.valueOf(got).equals(String.valueOf(want))) {
            wrong++;
            System.out.println(what + " answered " + got + ", due is " + want);
        }
    }

    static void fails(String what, Class<? extends RuntimeException> want, Call call) {
        Object got;
        try {
            got = call.run();
        } catch (RuntimeException e) {
            got = e.getClass();
        }
        due(what, got, want);
    }

    static void end() {
        if (wrong != 0) {
            System.out.println(wrong + " answers are not as due");
            System.exit(1);
        }
    }

    /** An office with a text that belongs to no change, and which tracks changes from then on. */
    static SealOffice plain(String text) {
        SealOffice x = new SealOffice();
        x.setTracking(false);
        type(x, 0, 0, text);
        x.setTracking(true);
        return x;
    }

    static void type(SealOffice x, int author, int place, String text) {
        for (int k = 0; k < text.length(); k++) {
            x.insert(author, place + k, text.charAt(k));
        }
    }

    static String text(SealOffice x) {
        StringBuilder text = new StringBuilder();
        for (int place = 0; place < x.length(); place++) {
            text.append(x.unitAt(place));
        }
        return text.toString();
    }

    static String old(SealOffice x) {
        StringBuilder text = new StringBuilder();
        for (int index = 0; index < x.oldLength(); index++) {
            text.append(x.oldAt(index));
        }
        return text.toString();
    }

    static String number(SealOffice x, int paragraph) {
        int length = x.writeNumber(paragraph);
        StringBuilder line = new StringBuilder();
        for (int index = 0; index < length; index++) {
            line.append(x.lineAt(index));
        }
        fails("lineAt behind the line", IndexOutOfBoundsException.class, () -> x.lineAt(length));
        return line.toString();
    }

    /** Page and line of each place. */
    static String spots(SealOffice x) {
        List<String> spots = new ArrayList<>();
        for (int place = 0; place <= x.length(); place++) {
            spots.add(x.pageOf(place) + "." + x.lineOf(place));
        }
        return String.join(" ", spots);
    }

    /** All that can be read without changing anything. */
    static String all(SealOffice x) {
        StringBuilder all = new StringBuilder();
        all.append(text(x)).append('|').append(old(x)).append('|').append(spots(x)).append('|').append(x.pages());
        for (int c = 0; c < x.changes(); c++) {
            all.append('|').append(x.kindOf(c)).append(x.authorOf(c)).append(x.stateOf(c)).append(x.unitsOf(c));
        }
        for (int p = 0; p < x.paragraphs(); p++) {
            all.append('|').append(x.styleOf(p)).append(x.isBold(p)).append(x.numberOf(p));
        }
        for (int place = 0; place < x.length(); place++) {
            all.append('|').append(either(x, place));
        }
        for (int b = 0; b < 6; b++) {
            all.append('|').append(bookmark(x, b));
        }
        for (int f = 0; f < 20; f++) {
            all.append('|').append(result(x, f));
        }
        return all.toString();
    }

    private static Object either(SealOffice x, int place) {
        try {
            return x.changeAt(place);
        } catch (java.util.NoSuchElementException e) {
            return "none";
        }
    }

    static String bookmark(SealOffice x, int bookmark) {
        try {
            return x.bookmarkFrom(bookmark) + "-" + x.bookmarkTo(bookmark);
        } catch (java.util.NoSuchElementException e) {
            return "none";
        }
    }

    private static Object result(SealOffice x, int field) {
        try {
            return x.result(field);
        } catch (IndexOutOfBoundsException e) {
            return "none";
        }
    }
}
