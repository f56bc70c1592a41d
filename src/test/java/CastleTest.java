/** Promises 1 to 8: a new object, the text, its faults, what the castle tells. */
public final class CastleTest {
    private static final int U = TurningWheel.UNKNOWN, O = TurningWheel.OUTSIDE, N = TurningWheel.NOT, F = TurningWheel.FULL;
    private static final String TEXT = "w10,30,20,40;t2 0 50;t6 1 30;t8 2 90;t14 7 400;s3 20;s14 500;s8 0;p2 7;";
    private static final Check check = new Check("CastleTest");

    public static void main(String[] args) {
        newObject();
        letters();
        texts();
        faultsOfWords();
        faultsOfNumbers();
        faultsOfCounts();
        faultKeepsAll();
        castleBeginsAnew();
        emptyText();
        oneAfterAnother();
        staleLetters();
        told();
        parts();
        check.end();
    }

    private static void newObject() {
        TurningWheel x = new TurningWheel();
        for (int what = 0; what <= 17; what++) {
            check.due("new told(" + what + ")", x.told(what), 0);
        }
        check.due("new fault()", x.fault(), -1);
        check.due("new likely(0)", x.likely(0), U);
        check.due("new test(0, 9)", x.test(0, 9), U);
        check.due("new servant(0, 9)", x.servant(0, 9), U);
        check.due("new make(0)", x.make(0), U);
        check.due("new hire(0)", x.hire(0, true), U);
        check.due("new buy(0)", x.buy(0, 1, 0), U);
        check.due("new belief(0)", x.belief(0), U);
        check.due("new liars(0)", x.liars(0), U);
        check.due("new worth(0)", x.worth(0, 0), U);
        check.due("new day(0)", x.day(0), O);
        check.due("new day(1)", x.day(1), N);
        check.due("new drift(61)", x.drift(61), O);
        check.due("new drift(60)", x.drift(60), N);
        check.due("new seal", x.seal(false), N);
        check.due("new smash", x.smash(), N);
        check.due("new undo", x.undo(), N);
        check.due("new write(1)", x.write(1), U);
        check.due("new write(0)", x.write(0), 1);
        check.due("new judge()", x.judge(), -1);
        check.due("new tear()", x.tear(), 1);
        check.due("new seed(7)", x.seed(7), 0);
        check.due("new goBack(0)", x.goBack(0), N);
        check.due("new keep(0)", x.keep(0), 1);
        check.due("new seed(8)", x.seed(8), 7);
        check.due("new goBack(0) kept", x.goBack(0), 1);
        check.due("new seed(9)", x.seed(9), 7);
        check.due("new secret", x.secret(1, 50), 500000);
    }

    private static void letters() {
        TurningWheel x = new TurningWheel();
        check.due("feed(-1)", x.feed(-1), O);
        check.due("feed(256)", x.feed(256), O);
        check.due("feed(least)", x.feed(Integer.MIN_VALUE), O);
        for (int i = 1; i <= 240; i++) {
            check.due("feed " + i, x.feed(i % 2 == 0 ? 255 : 0), i);
        }
        check.due("feed past the end", x.feed(0), F);
        check.due("feed outside past the end", x.feed(256), O);
        check.due("letters", x.told(3), 240);
        check.due("castle of them", x.castle(), -11);
        check.due("place", x.fault(), 0);
        check.due("letters then", x.told(3), 0);
        check.due("feed again", x.feed(32), 1);
    }

    /** What castle() and fault() answer to a text. */
    private static void text(String text, int answer, int place) {
        TurningWheel x = new TurningWheel();
        Check.feed(x, text);
        check.due("castle of '" + text + "'", x.castle(), answer);
        check.due("fault of '" + text + "'", x.fault(), place);
    }

    private static void texts() {
        text("", 0, -1);
        text("    ", 0, -1);
        text("w1,1;", 2, -1);
        text("w999,999,999,999,999,999,999,999;", 8, -1);
        text("  w 1 , 002 ; t 2 63 999 ; s 3 0 ; p 99 30 ;  ", 2, -1);
        text("w1,1;t2 0 0;t2 0 0;t2 0 0;t2 0 0;t2 0 0;t0 0 0;s3 0;s3 0;s3 0;s3 0;s3 999;p1 1;", 2, -1);
        text("w1,1;p1 1;s1 1;t2 1 1;s2 2;t0 0 0;", 2, -1);
        text("w1,1,1,1,1,1,1,1;t254 63 999;s255 0;", 8, -1);
        text("w1,1;" + " ".repeat(235), 2, -1);
        text(" ".repeat(240), 0, -1);
        text(" ".repeat(235) + "w1,1;", 2, -1);
        text(" ".repeat(236) + "w1,1", -11, 240);
        text(" ".repeat(239) + "w", -11, 240);
        text("w" + "1".repeat(239), -12, 1);
    }

    private static void faultsOfWords() {
        text("x", -11, 0);
        text("  p1 1;", -11, 2);
        text("5", -11, 0);
        text("5000", -11, 0);
        text(";", -11, 0);
        text("w", -11, 1);
        text("w  ", -11, 3);
        text("w,", -11, 1);
        text("w1", -11, 2);
        text("w1 ;", -11, 3);
        text("w1 2000,1;", -11, 3);
        text("w1,", -11, 3);
        text("w1,;", -11, 3);
        text("w1,1", -11, 4);
        text("w1,1   ", -11, 7);
        text("w1,1 1;", -11, 5);
        text("w1,w", -11, 3);
        text("w1,1,1,1,1,1,1,1 ,9999;", -11, 17);
        text("w1,1;;", -11, 5);
        text("w1,1;7", -11, 5);
        text("w1,1;W", -11, 5);
        text("w1,1;\t", -11, 5);
        text("w1,1;t2,0 0;", -11, 7);
        text("w1,1;t2 0;", -11, 9);
        text("w1,1;t2 0 0", -11, 11);
        text("w1,1;t2 0 0 0;", -11, 12);
        text("w1,1;t;", -11, 6);
        text("w1,1;s1;", -11, 7);
        text("w1,1;s1 1 1;", -11, 10);
        text("w1,1;s1 1p", -11, 9);
        text("w1,1;p1;", -11, 7);
        text("w1,1;p1 1", -11, 9);
        text("w1,1;s1 1w", -11, 9);
        text("w1,1;t2 0 0t", -11, 11);
        text("w1,-1;", -11, 3);
    }

    private static void faultsOfNumbers() {
        text("w0,1;", -12, 1);
        text("w000,1;", -12, 1);
        text("w0001,1;", -12, 1);
        text("w1000,1;", -12, 1);
        text("w 1234567890123456789012345678901234567890x", -12, 2);
        text("w1,0x", -12, 3);
        text("w1,1,0;", -12, 5);
        text("w1,1,1,1,1,1,1,0 ;s1 1;", -12, 15);
        text("w1,1;t1 0 0;", -12, 6);
        text("w1,1;t3 0 0;", -12, 6);
        text("w1,1;t4 0 0;", -12, 6);
        text("w1,1;t256 0 0;", -12, 6);
        text("w1,1;t2050;", -12, 6);
        text("w1,1;t205 0;", -12, 6);
        text("w1,1;t2 64 0;", -12, 8);
        text("w1,1;t2 0 1000;", -12, 10);
        text("w1,1,1;t6 0 0;t8 0 0;", -12, 15);
        text("w1,1;s0 0;", -12, 6);
        text("w1,1;s4 0;", -12, 6);
        text("w1,1;s256 0;", -12, 6);
        text("w1,1;s1 1000;", -12, 8);
        text("w1,1;p0 1;", -12, 6);
        text("w1,1;p100 1;", -12, 6);
        text("w1,1;p1 0;", -12, 8);
        text("w1,1;p1 31;", -12, 8);
        text("w1,1,1,1,1,1,1,1;t255 0 0;", -12, 18);
        text("w1,1,1,1,1,1,1,1;t256 0 0;", -12, 18);
    }

    private static void faultsOfCounts() {
        text("w1,1;w", -13, 5);
        text("w1,1;s1 1; w1,1;", -13, 11);
        text("w1,1;p1 1;p", -13, 10);
        text("w1,1;t0 0 0;t0 0 0;t0 0 0;t0 0 0;t0 0 0;t0 0 0;t0 0 0;", -13, 47);
        text("w1,1;s1 1;s1 1;s1 1;s1 1;s1 1;s", -13, 30);
    }

    private static void faultKeepsAll() {
        TurningWheel x = Check.wheel(TEXT);
        x.make(0);
        x.hear(3, true);
        x.write(13);
        x.keep(1);
        x.day(4);
        Check.feed(x, "w9,9;w");
        check.due("castle with a fault", x.castle(), -13);
        check.due("its place", x.fault(), 5);
        check.due("its text", x.told(3), 0);
        int[] due = {4, 4, 3, 0, 2, 7, 4, 4, 1, 1, 1, 13, 0, 0, 50, 1, 1, 1};
        for (int what = 0; what < due.length; what++) {
            check.due("as it was, told(" + what + ")", x.told(what), due[what]);
        }
        check.due("likely is as it was", x.likely(0), 10);
        check.due("undo is as it was", x.undo(), 0);
        check.due("image is as it was", x.goBack(1), 1);
    }

    private static void castleBeginsAnew() {
        TurningWheel x = Check.wheel(TEXT);
        x.make(0);
        x.hire(0, true);
        x.buy(1, 1, 500);
        x.smash();
        x.seal(false);
        x.day(9);
        x.hear(3, true);
        x.write(13);
        x.keep(0);
        x.day(1);
        x.seed(77);
        Check.feed(x, "w1,2;s1 0;s2 0;");
        check.due("castle anew", x.castle(), 2);
        check.due("no fault", x.fault(), -1);
        int[] due = {2, 0, 2, 0, 1, 1, 0, 0, 1, 1, 0, 3, 0, 0, 0, 0, 0, 0};
        for (int what = 0; what < due.length; what++) {
            check.due("anew, told(" + what + ")", x.told(what), due[what]);
        }
        check.due("anew, what it says", x.servant(1, 0), 2);
        check.due("anew, what it got", x.servant(1, 2), 0);
        check.due("anew, undo", x.undo(), N);
        check.due("anew, image", x.goBack(0), N);
        check.due("anew, test", x.test(0, 0), U);
        check.due("anew, seed", x.seed(0), 77);
    }

    private static void emptyText() {
        TurningWheel x = Check.wheel(TEXT);
        x.day(3);
        x.write(15);
        x.keep(0);
        x.seed(6);
        Check.feed(x, "   ");
        check.due("castle of blanks", x.castle(), 0);
        for (int what = 0; what <= 17; what++) {
            check.due("no castle, told(" + what + ")", x.told(what), 0);
        }
        check.due("no castle, day", x.day(1), N);
        check.due("no castle, image", x.goBack(0), N);
        check.due("no castle, likely", x.likely(0), U);
        check.due("no castle, seed", x.seed(0), 6);
    }

    /** Nothing of an earlier text is left in a later castle, whichever came between. */
    private static void oneAfterAnother() {
        TurningWheel x = Check.wheel(TEXT);
        String[] texts = {"w5,6,7,8,9;t2 0 1;t4 0 2;s1 1;s2 2;p3 4;", "w1,1;w", "w1,2;", "w1,2;p5 6;", "w3,4,5;t2 1 9;s7 8;", " ", "w7,7;"};
        int[][] due = {{5, 2, 2, 3, 4, -1}, {5, 2, 2, 3, 4, 5}, {2, 0, 0, 1, 1, -1}, {2, 0, 0, 5, 6, -1}, {3, 1, 1, 1, 1, -1},
            {0, 0, 0, 0, 0, -1}, {2, 0, 0, 1, 1, -1}};
        for (int i = 0; i < texts.length; i++) {
            Check.feed(x, texts[i]);
            x.castle();
            int[] told = {x.told(0), x.told(1), x.told(2), x.told(4), x.told(5), x.fault()};
            for (int k = 0; k < told.length; k++) {
                check.due("after '" + texts[i] + "', number " + k, told[k], due[i][k]);
            }
            check.due("liars after '" + texts[i] + "'", x.liars(1), due[i][0] == 0 ? U : i < 2 ? 1 : 0);
            check.due("left after '" + texts[i] + "'", x.told(11), (1 << due[i][0]) - 1);
        }
    }

    private static void staleLetters() {
        TurningWheel x = new TurningWheel();
        String[] texts = {"w1,1;s1 1;s1 1;", "w1,1", "w1,1;s1 1;s1 1;", "w1,1;s", "w1,1;s1 1;s1 1;", "w1,1;s1 ", "w1,1;"};
        int[] answers = {2, -11, 2, -11, 2, -11, 2};
        int[] places = {-1, 4, -1, 6, -1, 8, -1};
        for (int i = 0; i < texts.length; i++) {
            Check.feed(x, texts[i]);
            check.due("castle of '" + texts[i] + "', " + i, x.castle(), answers[i]);
            check.due("fault of '" + texts[i] + "', " + i, x.fault(), places[i]);
        }
    }

    private static void told() {
        TurningWheel x = Check.wheel(TEXT);
        check.due("told(-1)", x.told(-1), O);
        check.due("told(18)", x.told(18), O);
        x.feed(1);
        x.feed(2);
        x.make(0);
        x.seal(false);
        x.make(3);
        x.hire(0, true);
        x.hire(2, true);
        x.day(8);
        x.smash();
        x.day(1);
        x.hear(1, true);
        x.write(1);
        x.write(2);
        int[] due = {4, 4, 3, 2, 2, 7, 9, 8, 0, 0, 9, 1, 7, 5, 454, 1, 2, 8};
        for (int what = 0; what < due.length; what++) {
            check.due("told(" + what + ")", x.told(what), due[what]);
        }
    }

    private static void parts() {
        TurningWheel x = Check.wheel(TEXT);
        int[] likely = {10, 30, 20, 40};
        for (int w = 0; w < 4; w++) {
            check.due("likely(" + w + ")", x.likely(w), likely[w]);
        }
        check.due("likely(4)", x.likely(4), U);
        check.due("likely(-1)", x.likely(-1), U);
        x.make(0);
        int[][] tests = {{2, 0, 50, 1}, {6, 1, 30, 0}, {8, 2, 90, 0}, {14, 7, 400, 0}};
        for (int t = 0; t < 4; t++) {
            for (int what = 0; what < 4; what++) {
                check.due("test(" + t + ", " + what + ")", x.test(t, what), tests[t][what]);
            }
        }
        check.due("test(0, 4)", x.test(0, 4), O);
        check.due("test(0, -1)", x.test(0, -1), O);
        check.due("test(4, 0)", x.test(4, 0), U);
        check.due("test(-1, 4)", x.test(-1, 4), U);
        x.hire(2, true);
        x.day(8);
        x.buy(0, 9, 21);
        int[][] servants = {{9, 20, 21, -1}, {14, 500, 0, -1}, {8, 0, 2, 1}};
        for (int s = 0; s < 3; s++) {
            for (int what = 0; what < 4; what++) {
                check.due("servant(" + s + ", " + what + ")", x.servant(s, what), servants[s][what]);
            }
        }
        check.due("servant(0, 4)", x.servant(0, 4), O);
        check.due("servant(0, -1)", x.servant(0, -1), O);
        check.due("servant(3, 0)", x.servant(3, 0), U);
        check.due("servant(-1, 4)", x.servant(-1, 4), U);
    }
}
