/** Promises 49 to 53: figures, their bits, and soundness. */
public final class FiguresTest {
    public static void main(String[] args) {
        share();
        mean();
        sound();
        Check.end();
    }

    private static void share() {
        SealOffice x = new SealOffice();
        Check.fails("49: no units", ArithmeticException.class, () -> x.waitingShare());
        Check.fails("50: no units", ArithmeticException.class, () -> x.shareBits());
        SealOffice y = Check.plain("abc");
        Check.due("49: none", y.waitingShare(), 0f);
        Check.due("50: none", y.shareBits(), 0);
        y.setStyle(0, 0, 0);
        Check.due("49: a style does not count", y.waitingShare(), 0f);
        y.insert(0, 3, 'd');
        Check.due("49: a quarter", y.waitingShare(), 0.25f);
        y.insert(1, 4, 'e');
        y.erase(0, 0, 1);
        Check.due("49: erased ones, too", y.waitingShare(), 3f / 5f);
        y.erase(2, 2, 4);
        Check.due("49: once, if written and erased", y.waitingShare(), 3f / 5f);
        y.erase(2, 0, 2);
        Check.due("49: all", y.waitingShare(), 1f);
        Check.due("50: all", y.shareBits(), 0x3f800000);
        y.judge(-1, true);
        Check.fails("49: none are left", ArithmeticException.class, () -> y.waitingShare());
        SealOffice z = Check.plain("a".repeat(150));
        for (int k = 0; k < 50; k++) {
            z.insert(0, k, 'b');
            Check.due("50: bits", z.shareBits(), Float.floatToIntBits((float) (k + 1) / (float) (151 + k)));
            Check.due("49: share", z.waitingShare(), (float) (k + 1) / (float) (151 + k));
        }
    }

    private static void mean() {
        SealOffice x = new SealOffice();
        Check.due("51: empty", x.meanParagraph(), 0.0);
        Check.due("52: empty", x.meanBits(), 0L);
        SealOffice y = Check.plain("abc/d/");
        Check.due("51: ends are left out", y.meanParagraph(), 4.0 / 3.0);
        Check.due("52: bits", y.meanBits(), Double.doubleToLongBits(4.0 / 3.0));
        y.addField(0, 0, 'c', 0);
        Check.due("51: a field counts as one", y.meanParagraph(), 5.0 / 3.0);
        y.erase(1, 1, 3);
        Check.due("51: only what is seen", y.meanParagraph(), 1.0);
        y.erase(1, 2, 3);
        Check.due("51: joined", y.meanParagraph(), 1.5);
        SealOffice z = new SealOffice();
        z.setTracking(false);
        for (int k = 1; k <= 150; k++) {
            z.insert(0, k - 1, k % 7 == 0 ? '/' : 'a');
            double mean = (double) (k - k / 7) / (double) (k / 7 + 1);
            Check.due("51: mean", z.meanParagraph(), mean);
            Check.due("52: bits", z.meanBits(), Double.doubleToLongBits(mean));
        }
        SealOffice w = Check.plain("/".repeat(100) + "abc");
        Check.due("52: less than one", w.meanBits(), Double.doubleToLongBits(3.0 / 101.0));
    }

    private static void sound() {
        SealOffice x = new SealOffice();
        Check.due("53: empty", x.isSound(), true);
        x.addStyle(0, true, 1);
        Check.type(x, 0, 0, "ab cd/ef");
        x.setBookmark(0, 2, 8);
        x.setBookmark(1, 8, 8);
        Check.type(x, 1, 2, "x/");
        x.erase(2, 1, 6);
        x.erase(0, 0, 2);
        x.setStyle(3, 0, 1);
        x.addField(3, 0, 'p', 0);
        x.setPage(5, 2);
        String before = Check.all(x);
        Check.due("53: sound", x.isSound(), true);
        Check.due("53: it only looks", Check.all(x), before);
        x.judge(1, false);
        Check.due("53: judged in part", x.isSound(), true);
        x.undo();
        x.refuse(0);
        Check.due("53: refused in part", x.isSound(), true);
        x.judge(-1, true);
        Check.due("53: all judged", x.isSound(), true);
        Check.due("53: full", Check.plain("a /".repeat(66)).isSound(), true);
    }
}
