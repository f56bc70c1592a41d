/** Promises 32 to 34: the seed, images kept and gone back to. */
public final class ImagesTest {
    private static final int U = TurningWheel.UNKNOWN, O = TurningWheel.OUTSIDE, N = TurningWheel.NOT;
    private static final String TEXT = "w10,30,20,40;t2 0 50;t6 1 30;s3 20;s1 0;p2 7;";
    private static final Check check = new Check("ImagesTest");

    public static void main(String[] args) {
        seed();
        images();
        allIsKept();
        whatIsNotKept();
        check.end();
    }

    private static void seed() {
        TurningWheel x = new TurningWheel();
        check.due("seed(-1)", x.seed(-1), O);
        check.due("seed(least)", x.seed(Integer.MIN_VALUE), O);
        check.due("seed at first", x.seed(2147483647), 0);
        check.due("seed then", x.seed(3), 2147483647);
        check.due("seed stays", x.castle() + x.seed(4), 3);
        x = Check.wheel("w1,1;");
        x.drift(1);
        check.due("a draw", x.seed(1), 12345);
        x.drift(1);
        check.due("a draw of 1", x.seed(0), 1103527590);
    }

    private static void images() {
        TurningWheel x = Check.wheel(TEXT);
        check.due("keep(2)", x.keep(2), U);
        check.due("keep(-1)", x.keep(-1), U);
        check.due("goBack(2)", x.goBack(2), U);
        check.due("goBack(-1)", x.goBack(-1), U);
        check.due("goBack(0)", x.goBack(0), N);
        x.day(3);
        check.due("keep refused leaves what can be undone", x.told(17), 1);
        check.due("keep(0)", x.keep(0), 1);
        check.due("nothing can be undone", x.undo(), N);
        check.due("goBack(1)", x.goBack(1), N);
        x.day(4);
        check.due("keep(1)", x.keep(1), 1);
        x.day(5);
        check.due("goBack refused leaves what can be undone", x.goBack(3) + x.told(17), U + 1);
        check.due("goBack(0)", x.goBack(0), 1);
        check.due("days of 0", x.told(6), 3);
        check.due("nothing can be undone then", x.told(17), 0);
        check.due("goBack(1)", x.goBack(1), 1);
        check.due("days of 1", x.told(6), 7);
        check.due("goBack(0) again", x.goBack(0), 1);
        x.day(1);
        check.due("an image is not changed by what comes", x.goBack(0), 1);
        check.due("days of 0 again", x.told(6), 3);
    }

    private static void allIsKept() {
        TurningWheel x = Check.wheel(TEXT);
        x.seal(false);
        x.make(1);
        x.hire(0, true);
        x.buy(1, 6, 33);
        x.day(9);
        x.smash();
        x.day(1);
        x.seed(99);
        x.keep(1);
        int[] told = new int[17];
        for (int what = 0; what < 17; what++) {
            told[what] = x.told(what);
        }
        x.seed(5);
        x.drift(60);
        x.hire(1, true);
        x.hire(0, false);
        x.buy(1, 1, 7);
        x.seal(true);
        x.goBack(1);
        for (int what = 0; what < 17; what++) {
            check.due("kept, told(" + what + ")", x.told(what), told[what]);
        }
        check.due("kept, says", x.servant(1, 0), 6);
        check.due("kept, got", x.servant(1, 2), 33);
        check.due("kept, wages", x.servant(0, 2), 2);
        check.due("kept, since", x.servant(0, 3), 3);
        check.due("kept, made", x.test(1, 3), 1);
        check.due("kept, seed", x.seed(0), 99);
    }

    private static void whatIsNotKept() {
        TurningWheel x = Check.wheel(TEXT);
        x.hear(1, true);
        x.keep(0);
        x.hear(2, false);
        x.write(15);
        x.goBack(0);
        check.due("heard stays", x.told(15), 2);
        check.due("the book stays", x.told(16), 1);
        x.feed('w');
        x.goBack(0);
        check.due("the text stays", x.told(3), 1);
    }
}
