/** Promises 9 to 16: days, tests, seals, the wheel smashed, servants hired and bought, draws, undone. */
public final class DeedsTest {
    private static final int U = TurningWheel.UNKNOWN, O = TurningWheel.OUTSIDE, N = TurningWheel.NOT, F = TurningWheel.FULL;
    private static final String TEXT = "w10,30,20,40;t2 0 50;t6 1 30;t8 2 90;t14 7 400;s3 20;s14 500;s8 0;p2 7;";
    private static final Check check = new Check("DeedsTest");

    public static void main(String[] args) {
        days();
        wages();
        tests();
        seals();
        smashed();
        hired();
        bought();
        countedAtMost();
        drifts();
        driftOfEachDay();
        driftWithNothing();
        driftWithTests();
        driftWithServants();
        undone();
        undoneOldest();
        check.end();
    }

    private static void days() {
        TurningWheel x = Check.wheel(TEXT);
        check.due("day(0)", x.day(0), O);
        check.due("day(61)", x.day(61), O);
        check.due("day(-1)", x.day(-1), O);
        check.due("nothing to undo", x.told(17), 0);
        check.due("day(1)", x.day(1), 1);
        check.due("day(59)", x.day(59), 60);
        for (int i = 2; i <= 150; i++) {
            check.due("day(60)", x.day(60), 60 * i);
        }
        check.due("day 9000 and on", x.day(60), 9060);
        check.due("day above 9000", x.day(1), F);
        check.due("drift above 9000", x.drift(1), F);
        check.due("day(0) above 9000", x.day(0), O);
        check.due("turned", x.told(7), 9060);
        x.undo();
        check.due("day(1) at 9000", x.day(1), 9001);
        check.due("day(1) at 9001", x.day(1), F);
    }

    private static void wages() {
        TurningWheel x = Check.wheel("w1,1;s1 0;s1 0;");
        x.hire(1, true);
        x.day(3);
        check.due("untold pay is 1 each day", x.servant(1, 2), 3);
        check.due("days since", x.servant(1, 3), 0);
        check.due("who is not hired", x.servant(0, 2), 0);
        x = Check.wheel("w1,1;s1 0;p99 30;");
        x.hire(0, true);
        x.day(29);
        check.due("29 of 30 days", x.servant(0, 2), 0);
        x.day(1);
        check.due("30 of 30 days", x.servant(0, 2), 99);
        x.day(60);
        check.due("90 days", x.servant(0, 2), 297);
        x.smash();
        x.day(30);
        check.due("paid though it is smashed", x.servant(0, 2), 396);
        check.due("spent", x.told(14), 396);
    }

    private static void tests() {
        TurningWheel x = Check.wheel(TEXT);
        check.due("make(4)", x.make(4), U);
        check.due("make(-1)", x.make(-1), U);
        check.due("make what shows, sealed", x.make(2), N);
        check.due("make what shows nothing, sealed", x.make(0), 13);
        check.due("make it again", x.make(0), N);
        x.seal(false);
        check.due("make unsealed", x.make(2), 5);
        check.due("shown", x.told(12), 2);
        check.due("spent", x.told(14), 140);
        x.seal(true);
        check.due("sealed again", x.make(1), N);
        x.seal(false);
        x.smash();
        check.due("smashed", x.make(1), N);
        check.due("made", x.told(10), 5);
    }

    private static void seals() {
        TurningWheel x = Check.wheel(TEXT);
        check.due("seal(true)", x.seal(true), 1);
        check.due("seal(false)", x.seal(false), 1);
        check.due("told(9)", x.told(9), 0);
        check.due("seal(false) again", x.seal(false), 0);
        check.due("seal(true) again", x.seal(true), 0);
        check.due("told(9) again", x.told(9), 1);
        x.smash();
        check.due("seal, smashed", x.seal(false), 1);
    }

    private static void smashed() {
        TurningWheel x = Check.wheel(TEXT);
        x.day(54);
        check.due("smash()", x.smash(), 54);
        check.due("smash() again", x.smash(), N);
        check.due("day", x.day(6), 60);
        check.due("turned", x.told(7), 54);
        check.due("turns", x.told(8), 0);
        x.undo();
        x.undo();
        check.due("turns again", x.told(8), 1);
        check.due("smash() then", x.smash(), 54);
    }

    private static void hired() {
        TurningWheel x = Check.wheel(TEXT);
        check.due("hire(3)", x.hire(3, true), U);
        check.due("hire(-1)", x.hire(-1, false), U);
        check.due("hire", x.hire(1, true), 0);
        x.day(5);
        check.due("days since", x.servant(1, 3), 5);
        check.due("hire again", x.hire(1, true), 1);
        check.due("from now on", x.servant(1, 3), 0);
        x.day(6);
        check.due("not paid yet", x.servant(1, 2), 0);
        check.due("dismiss", x.hire(1, false), 1);
        check.due("days since, dismissed", x.servant(1, 3), -1);
        check.due("dismiss again", x.hire(1, false), 0);
        x.day(10);
        check.due("nothing, dismissed", x.servant(1, 2), 0);
        check.due("hire once more", x.hire(1, true), 0);
        check.due("from now on, too", x.servant(1, 3), 0);
        check.due("who is hired", x.told(13), 2);
    }

    private static void bought() {
        TurningWheel x = Check.wheel(TEXT);
        check.due("buy(3)", x.buy(3, 1, 1), U);
        check.due("buy no ways", x.buy(0, 0, -1), U);
        check.due("buy unknown ways", x.buy(0, 16, 99), U);
        check.due("buy all bits", x.buy(0, -1, 99), U);
        check.due("buy for -1", x.buy(0, 1, -1), O);
        check.due("buy for 10000", x.buy(0, 1, 10000), O);
        check.due("buy for too little", x.buy(0, 1, 19), N);
        check.due("nothing to undo", x.told(17), 0);
        check.due("buy for P", x.buy(0, 8, 20), 20);
        check.due("what it says", x.servant(0, 0), 8);
        check.due("buy again", x.buy(0, 8, 9999), 10019);
        check.due("buy for nothing", x.buy(2, 15, 0), 0);
        check.due("what it says for nothing", x.servant(2, 0), 15);
        check.due("spent", x.told(14), 10019);
        x.hire(0, true);
        x.day(4);
        x.buy(0, 1, 20);
        check.due("bought is not paid", x.servant(0, 3), 4);
    }

    private static void countedAtMost() {
        TurningWheel x = Check.wheel("w1,1;s1 0;s1 0;p99 1;");
        for (int i = 1; i <= 100; i++) {
            check.due("buy " + i, x.buy(0, 1, 9999), 9999 * i);
        }
        check.due("buy to the most", x.buy(0, 1, 9999), 999999);
        check.due("buy past it", x.buy(0, 2, 5), 999999);
        x.hire(0, true);
        x.day(1);
        check.due("paid past it", x.servant(0, 2), 999999);
        check.due("the other", x.buy(1, 1, 7), 7);
        check.due("spent at most", x.told(14), 999999);
    }

    private static void drifts() {
        TurningWheel x = Check.wheel(TEXT);
        check.due("drift(0)", x.drift(0), O);
        check.due("drift(61)", x.drift(61), O);
        x.make(0);
        x.seed(5);
        check.due("drift(20)", x.drift(20), 13);
        check.due("days", x.told(6), 20);
        check.due("hired", x.told(13), 4);
        check.due("one to undo for it", x.told(17), 2);
        int after = x.seed(0);
        x.seed(after);
        check.due("undo it", x.undo(), 1);
        check.due("days then", x.told(6), 0);
        check.due("the seed stays", x.seed(0), after);
    }

    /** Day by day as in one go: a drift is nothing but its days. */
    private static void driftOfEachDay() {
        TurningWheel x = Check.wheel(TEXT);
        TurningWheel y = Check.wheel(TEXT);
        x.seed(2147483647);
        y.seed(2147483647);
        for (int i = 0; i < 60; i++) {
            x.drift(1);
        }
        y.drift(60);
        for (int what = 0; what < 17; what++) {
            check.due("drift by days, told(" + what + ")", x.told(what), y.told(what));
        }
        check.due("drift by days, seed", x.seed(0), y.seed(0));
    }

    /** Without tests and servants each day has one draw. */
    private static void driftWithNothing() {
        TurningWheel x = Check.wheel("w1,1;");
        long seed = 0;
        int sealed = 1;
        for (int i = 1; i <= 100; i++) {
            seed = (seed * 1103515245L + 12345L) % 2147483648L;
            if (seed / 65536 % 8 == 2) {
                sealed = 1 - sealed;
            }
            check.due("drift(1) of nothing", x.drift(1), 3);
            check.due("sealed, day " + i, x.told(9), sealed);
            int now = x.seed(0);
            x.seed(now);
            check.due("seed, day " + i, now, seed);
        }
    }

    private static int draw(long[] seed, int n) {
        seed[0] = (seed[0] * 1103515245L + 12345L) % 2147483648L;
        return (int) (seed[0] / 65536 % n);
    }

    /** Tests alone: each that is drawn is made, but if it is sealed in or made. */
    private static void driftWithTests() {
        TurningWheel x = Check.wheel("w1,1,1,1;t2 1 1;t4 0 2;t8 1 4;");
        long[] seed = {0};
        int sealed = 1;
        int made = 0;
        for (int i = 1; i <= 150; i++) {
            int d = draw(seed, 8);
            int t = d == 0 ? draw(seed, 3) : 1;
            if (d == 0 && (sealed == 0 || t == 1)) {
                made |= 1 << t;
            }
            sealed = d == 2 ? 1 - sealed : sealed;
            check.due("drift(1) of tests, day " + i, x.drift(1), 15 & ~(made << 1));
            check.due("made, day " + i, x.told(10), made);
            check.due("spent, day " + i, x.told(14), made);
        }
        check.due("all are made", made, 7);
        x = Check.wheel("w1,1,1,1;t2 0 1;t4 0 2;t8 0 4;");
        x.smash();
        check.due("smashed, none is made", x.drift(60), 15);
    }

    /** Servants alone: hired at a day's begin, so that this day counts. */
    private static void driftWithServants() {
        TurningWheel x = Check.wheel("w1,1;s1 0;s1 0;p10 3;");
        long[] seed = {0};
        int[] since = {-1, -1};
        int[] got = {0, 0};
        for (int i = 1; i <= 100; i++) {
            int d = draw(seed, 8);
            if (d == 1) {
                int s = draw(seed, 2);
                since[s] = since[s] < 0 ? 0 : -1;
            }
            x.drift(1);
            for (int s = 0; s < 2; s++) {
                if (since[s] >= 0) {
                    since[s] = (since[s] + 1) % 3;
                    got[s] += since[s] == 0 ? 10 : 0;
                }
                check.due("since, day " + i, x.servant(s, 3), since[s]);
                check.due("got, day " + i, x.servant(s, 2), got[s]);
            }
        }
    }

    private static void undone() {
        TurningWheel x = Check.wheel(TEXT);
        x.seal(false);
        x.make(3);
        x.hire(0, true);
        x.day(8);
        x.buy(0, 2, 30);
        x.smash();
        check.due("can be undone", x.told(17), 6);
        check.due("undo smash", x.undo(), 5);
        check.due("turns", x.told(8), 1);
        check.due("undo buy", x.undo(), 4);
        check.due("says", x.servant(0, 0), 3);
        check.due("got", x.servant(0, 2), 2);
        check.due("undo day", x.undo(), 3);
        check.due("days", x.told(6), 0);
        check.due("turned", x.told(7), 0);
        check.due("since", x.servant(0, 3), 0);
        check.due("got then", x.servant(0, 2), 0);
        check.due("undo hire", x.undo(), 2);
        check.due("hired", x.told(13), 0);
        check.due("undo make", x.undo(), 1);
        check.due("left", x.told(11), 15);
        check.due("undo seal", x.undo(), 0);
        check.due("sealed", x.told(9), 1);
        check.due("undo nothing", x.undo(), N);
        x.hear(1, true);
        x.write(3);
        x.day(1);
        x.undo();
        check.due("heard stays", x.told(15), 1);
        check.due("the book stays", x.told(16), 1);
    }

    private static void undoneOldest() {
        TurningWheel x = Check.wheel(TEXT);
        for (int i = 1; i <= 25; i++) {
            x.day(1);
            check.due("kept of " + i, x.told(17), Math.min(i, 20));
        }
        for (int i = 19; i >= 0; i--) {
            check.due("undo", x.undo(), i);
            check.due("days", x.told(6), 5 + i);
        }
        check.due("the oldest are lost", x.undo(), N);
        x.seal(true);
        check.due("a deed that changes nothing", x.told(17), 1);
        x.hire(0, false);
        check.due("another", x.told(17), 2);
    }
}
