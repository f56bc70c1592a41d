/** Section 2 and promises 9 to 16 at their edges: the last call that is still good, the first that is not. */
public final class DeedBoundsTest {
    private static final int U = TurningWheel.UNKNOWN, O = TurningWheel.OUTSIDE, N = TurningWheel.NOT, F = TurningWheel.FULL;
    private static final int LEAST = Integer.MIN_VALUE, GREATEST = Integer.MAX_VALUE;
    private static final String TEXT = "w10,30,20,40;t2 0 50;t6 1 30;t8 2 90;s3 20;s14 999;s8 0;p2 7;";
    private static final Check check = new Check("DeedBoundsTest");

    public static void main(String[] args) {
        daysAre1To60();
        driftIs1To60();
        daysStopAbove9000();
        driftStopsAbove9000();
        noCastleNoDeeds();
        aTestThatThereIs();
        aTestIsMadeOnce();
        sealedOnlyWhatShowsNothing();
        smashedForGood();
        sealedAndUnsealed();
        turnedWhileItTurns();
        hiredIsOfServantsThereAre();
        paidEachDDays();
        hiredAgainBeginsAnew();
        dismissedIsNotPaid();
        boughtForSoMuch();
        boughtForAtLeastP();
        boughtToSayWaysThereAre();
        boughtIsNotPaid();
        gotIs999999AtMostByBuying();
        gotIs999999AtMostByPay();
        gotIsCountedServantByServant();
        spentIs999999AtMost();
        twentyCanBeUndone();
        eachDeedCanBeUndone();
        refusedDeedsCannotBeUndone();
        undoneGotAtMost();
        undoneIsAsAheadOfIt();
        dismissedAlone();
        drawsOfEachDay();
        drawsOfTests();
        drawsOfServants();
        drawnTestsThatCannotBeMade();
        check.end();
    }

    private static void daysAre1To60() {
        TurningWheel x = Check.wheel(TEXT);
        check.due("day(0)", x.day(0), O);
        check.due("day(1)", x.day(1), 1);
        check.due("day(60)", x.day(60), 61);
        check.due("day(61)", x.day(61), O);
        check.due("day(-1)", x.day(-1), O);
        check.due("day(least)", x.day(LEAST), O);
        check.due("day(greatest)", x.day(GREATEST), O);
        check.due("days", x.told(6), 61);
    }

    private static void driftIs1To60() {
        TurningWheel x = Check.wheel("w1,1;");
        check.due("drift(0)", x.drift(0), O);
        check.due("drift(1)", x.drift(1), 3);
        check.due("drift(60)", x.drift(60), 3);
        check.due("drift(61)", x.drift(61), O);
        check.due("drift(-1)", x.drift(-1), O);
        check.due("drift(least)", x.drift(LEAST), O);
        check.due("drift(greatest)", x.drift(GREATEST), O);
        check.due("days", x.told(6), 61);
    }

    private static TurningWheel atDay(int day) {
        TurningWheel x = Check.wheel("w1,1;");
        for (int left = day; left > 0; left -= 60) {
            x.day(Math.min(left, 60));
        }
        check.due("days of " + day, x.told(6), day);
        return x;
    }

    private static void daysStopAbove9000() {
        check.due("day(1) at 8999", atDay(8999).day(1), 9000);
        check.due("day(60) at 9000", atDay(9000).day(60), 9060);
        check.due("day(1) at 9000", atDay(9000).day(1), 9001);
        TurningWheel x = atDay(9001);
        check.due("day(1) at 9001", x.day(1), F);
        check.due("day(60) at 9001", x.day(60), F);
        check.due("day(0) at 9001", x.day(0), O);
        check.due("day(61) at 9001", x.day(61), O);
        check.due("days", x.told(6), 9001);
        check.due("turned", x.told(7), 9001);
    }

    private static void driftStopsAbove9000() {
        check.due("drift(1) at 8999", atDay(8999).drift(1), 3);
        TurningWheel x = atDay(9000);
        check.due("drift(60) at 9000", x.drift(60), 3);
        check.due("days", x.told(6), 9060);
        x = atDay(9001);
        check.due("drift(1) at 9001", x.drift(1), F);
        check.due("drift(0) at 9001", x.drift(0), O);
        check.due("drift(61) at 9001", x.drift(61), O);
        check.due("no draw is made", x.seed(0), 0);
        check.due("days", x.told(6), 9001);
    }

    private static void noCastleNoDeeds() {
        TurningWheel x = new TurningWheel();
        check.due("day(1)", x.day(1), N);
        check.due("day(0)", x.day(0), O);
        check.due("drift(1)", x.drift(1), N);
        check.due("drift(61)", x.drift(61), O);
        check.due("seal(true)", x.seal(true), N);
        check.due("seal(false)", x.seal(false), N);
        check.due("smash()", x.smash(), N);
        check.due("make(0)", x.make(0), U);
        check.due("hire(0, true)", x.hire(0, true), U);
        check.due("hire(0, false)", x.hire(0, false), U);
        check.due("buy(0, 1, 0)", x.buy(0, 1, 0), U);
        check.due("undo()", x.undo(), N);
        check.due("can be undone", x.told(17), 0);
    }

    private static void aTestThatThereIs() {
        TurningWheel x = Check.wheel(TEXT);
        x.seal(false);
        check.due("make(-1)", x.make(-1), U);
        check.due("make(3)", x.make(3), U);
        check.due("make(least)", x.make(LEAST), U);
        check.due("make(greatest)", x.make(GREATEST), U);
        check.due("make(32)", x.make(32), U);
        check.due("make(0)", x.make(0), 13);
        check.due("make(2)", x.make(2), 5);
        check.due("made", x.told(10), 5);
        x = Check.wheel("w1,1;" + "t2 0 1;".repeat(6));
        check.due("the sixth", x.make(5), 1);
        check.due("a seventh", x.make(6), U);
        check.due("no tests", Check.wheel("w1,1;").make(0), U);
    }

    private static void aTestIsMadeOnce() {
        TurningWheel x = Check.wheel(TEXT);
        check.due("once", x.make(0), 13);
        check.due("twice", x.make(0), N);
        x.seal(false);
        check.due("twice, unsealed", x.make(0), N);
        check.due("spent once", x.told(14), 50);
        x.undo();
        x.undo();
        check.due("once, it was undone", x.make(0), 13);
    }

    private static void sealedOnlyWhatShowsNothing() {
        for (int secret = 0; secret < 6; secret++) {
            TurningWheel x = Check.wheel("w1,1;t2 0 1;t2 " + (1 << secret) + " 1;");
            check.due("sealed at first, it shows " + secret, x.make(1), N);
            check.due("sealed at first, it shows nothing", x.make(0), 1);
            x.seal(false);
            x.seal(true);
            check.due("sealed again", x.make(1), N);
            x.seal(false);
            check.due("unsealed", x.make(1), 1);
            x.seal(true);
            check.due("shown stays, sealed again", x.told(12), 1 << secret);
        }
    }

    private static void smashedForGood() {
        TurningWheel x = Check.wheel(TEXT);
        check.due("smashed on day 0", x.smash(), 0);
        check.due("smashed again", x.smash(), N);
        check.due("what shows nothing", x.make(0), N);
        x.seal(false);
        check.due("what shows", x.make(1), N);
        x.day(60);
        check.due("it turns no more", x.told(8), 0);
        check.due("smashed still", x.smash(), N);
        check.due("a test that there is not", x.make(3), U);
        Check.feed(x, TEXT);
        x.castle();
        check.due("it turns in a new castle", x.told(8), 1);
        check.due("smashed there", x.smash(), 0);
    }

    private static void sealedAndUnsealed() {
        TurningWheel x = Check.wheel(TEXT);
        check.due("sealed at first", x.told(9), 1);
        check.due("sealed though it is", x.seal(true), 1);
        check.due("unsealed", x.seal(false), 1);
        check.due("unsealed though it is", x.seal(false), 0);
        check.due("sealed again", x.seal(true), 0);
        check.due("it is", x.told(9), 1);
    }

    private static void turnedWhileItTurns() {
        TurningWheel x = Check.wheel(TEXT);
        x.day(54);
        check.due("smash() tells how long it turned", x.smash(), 54);
        x.day(1);
        check.due("days", x.told(6), 55);
        check.due("turned", x.told(7), 54);
    }

    private static void hiredIsOfServantsThereAre() {
        TurningWheel x = Check.wheel(TEXT);
        check.due("hire(-1, true)", x.hire(-1, true), U);
        check.due("hire(3, true)", x.hire(3, true), U);
        check.due("hire(3, false)", x.hire(3, false), U);
        check.due("hire(least, true)", x.hire(LEAST, true), U);
        check.due("hire(greatest, true)", x.hire(GREATEST, true), U);
        check.due("hire(0, true)", x.hire(0, true), 0);
        check.due("hire(2, true)", x.hire(2, true), 0);
        check.due("hired", x.told(13), 5);
        x = Check.wheel("w1,1;" + "s1 0;".repeat(5));
        check.due("the fifth", x.hire(4, true), 0);
        check.due("a sixth", x.hire(5, true), U);
        check.due("the fifth is hired", x.told(13), 16);
    }

    private static void paidEachDDays() {
        for (int d = 1; d <= 30; d++) {
            TurningWheel x = Check.wheel("w1,1;s1 0;p99 " + d + ";");
            x.hire(0, true);
            if (d > 1) {
                x.day(d - 1);
            }
            check.due("not yet by " + d, x.servant(0, 2), 0);
            check.due("since, not yet by " + d, x.servant(0, 3), d - 1);
            x.day(1);
            check.due("paid by " + d, x.servant(0, 2), 99);
            check.due("since, paid by " + d, x.servant(0, 3), 0);
            x.day(60);
            check.due("paid again by " + d, x.servant(0, 2), 99 * ((60 + d) / d));
            check.due("since, paid again by " + d, x.servant(0, 3), 60 % d);
        }
    }

    private static void hiredAgainBeginsAnew() {
        TurningWheel x = Check.wheel(TEXT);
        x.hire(0, true);
        x.day(6);
        check.due("hired again on the day ahead", x.hire(0, true), 1);
        check.due("0 days since", x.servant(0, 3), 0);
        x.day(6);
        check.due("not paid by then", x.servant(0, 2), 0);
        x.day(1);
        check.due("paid then", x.servant(0, 2), 2);
    }

    private static void dismissedIsNotPaid() {
        TurningWheel x = Check.wheel(TEXT);
        check.due("none is hired", x.servant(0, 3), -1);
        check.due("dismissed though not hired", x.hire(0, false), 0);
        x.hire(0, true);
        x.day(6);
        check.due("dismissed", x.hire(0, false), 1);
        check.due("no days since", x.servant(0, 3), -1);
        x.day(1);
        check.due("not paid", x.servant(0, 2), 0);
        x.hire(0, true);
        check.due("hired anew, 0 days since", x.servant(0, 3), 0);
        x.day(6);
        check.due("hired anew, not paid yet", x.servant(0, 2), 0);
    }

    private static void boughtForSoMuch() {
        TurningWheel x = Check.wheel(TEXT);
        check.due("for -1", x.buy(2, 1, -1), O);
        check.due("for 0", x.buy(2, 1, 0), 0);
        check.due("for 9999", x.buy(2, 1, 9999), 9999);
        check.due("for 10000", x.buy(2, 1, 10000), O);
        check.due("for the least", x.buy(2, 1, LEAST), O);
        check.due("for the greatest", x.buy(2, 1, GREATEST), O);
        check.due("it got", x.servant(2, 2), 9999);
    }

    private static void boughtForAtLeastP() {
        TurningWheel x = Check.wheel(TEXT);
        check.due("for P less 1", x.buy(0, 1, 19), N);
        check.due("it says the same", x.servant(0, 0), 3);
        check.due("for P", x.buy(0, 1, 20), 20);
        check.due("it says another", x.servant(0, 0), 1);
        check.due("for 998 of 999", x.buy(1, 1, 998), N);
        check.due("for 999 of 999", x.buy(1, 1, 999), 999);
        check.due("for 0 of 20", x.buy(0, 1, 0), N);
        check.due("for -1 of 20", x.buy(0, 1, -1), O);
        check.due("again for P less 1", x.buy(0, 1, 19), N);
    }

    private static void boughtToSayWaysThereAre() {
        TurningWheel x = Check.wheel(TEXT);
        check.due("a servant -1", x.buy(-1, 1, 999), U);
        check.due("a servant 3", x.buy(3, 1, 999), U);
        check.due("none", x.buy(2, 0, 0), U);
        check.due("way 4", x.buy(2, 16, 0), U);
        check.due("way 4, too", x.buy(2, 17, 0), U);
        check.due("way 31", x.buy(2, LEAST, 0), U);
        check.due("way 31, too", x.buy(2, LEAST | 1, 0), U);
        check.due("all bits", x.buy(2, -1, 0), U);
        check.due("all but 31", x.buy(2, GREATEST, 0), U);
        check.due("way 0", x.buy(2, 1, 0), 0);
        check.due("it says way 0", x.servant(2, 0), 1);
        check.due("all", x.buy(2, 15, 0), 0);
        check.due("it says all", x.servant(2, 0), 15);
        x = Check.wheel("w1,1,1,1,1,1,1,1;s1 0;");
        check.due("all of eight", x.buy(0, 255, 0), 0);
        check.due("a ninth way", x.buy(0, 256, 0), U);
        check.due("it says all of eight", x.servant(0, 0), 255);
    }

    private static void boughtIsNotPaid() {
        TurningWheel x = Check.wheel(TEXT);
        x.hire(2, true);
        x.day(6);
        x.buy(2, 1, 5);
        check.due("days since", x.servant(2, 3), 6);
        x.day(1);
        check.due("paid as due", x.servant(2, 2), 7);
        x = Check.wheel(TEXT);
        x.buy(2, 1, 5);
        check.due("bought is not hired", x.servant(2, 3), -1);
        check.due("nobody is hired", x.told(13), 0);
    }

    /** A wheel whose servant 0 got 999900. */
    private static TurningWheel richServant(String text) {
        TurningWheel x = Check.wheel(text);
        for (int i = 0; i < 100; i++) {
            x.buy(0, 1, 9999);
        }
        check.due("it got", x.servant(0, 2), 999900);
        return x;
    }

    private static void gotIs999999AtMostByBuying() {
        TurningWheel x = richServant("w1,1;s1 0;");
        check.due("one less", x.buy(0, 1, 98), 999998);
        check.due("the most", x.buy(0, 1, 1), 999999);
        check.due("one more", x.buy(0, 1, 1), 999999);
        check.due("many more", x.buy(0, 2, 9999), 999999);
        check.due("it says what it was bought for", x.servant(0, 0), 2);
        check.due("past it at once", richServant("w1,1;s1 0;").buy(0, 1, 100), 999999);
    }

    private static void gotIs999999AtMostByPay() {
        TurningWheel x = richServant("w1,1;s1 0;p49 1;");
        x.hire(0, true);
        x.day(2);
        check.due("one less", x.servant(0, 2), 999998);
        x.day(1);
        check.due("the most", x.servant(0, 2), 999999);
        x.day(60);
        check.due("no more", x.servant(0, 2), 999999);
        x = richServant("w1,1;s1 0;p99 1;");
        x.hire(0, true);
        x.day(1);
        check.due("the most, reached", x.servant(0, 2), 999999);
    }

    private static void gotIsCountedServantByServant() {
        TurningWheel x = richServant("w1,1;s1 0;s2 0;");
        x.buy(0, 1, 9999);
        check.due("the other one", x.buy(1, 1, 9999), 9999);
        check.due("the first one", x.servant(0, 2), 999999);
    }

    private static void spentIs999999AtMost() {
        TurningWheel x = richServant("w1,1;t2 0 98;t2 0 1;t2 0 1;s1 0;s1 0;");
        check.due("what it got", x.told(14), 999900);
        x.make(0);
        check.due("one less", x.told(14), 999998);
        x.make(1);
        check.due("the most", x.told(14), 999999);
        x.make(2);
        check.due("no more", x.told(14), 999999);
        x.undo();
        x.undo();
        x.buy(1, 1, 1);
        check.due("the most by another", x.told(14), 999999);
        x.buy(1, 1, 1);
        check.due("no more by another", x.told(14), 999999);
        check.due("what the other got", x.servant(1, 2), 2);
    }

    private static void twentyCanBeUndone() {
        TurningWheel x = Check.wheel(TEXT);
        check.due("none at first", x.undo(), N);
        for (int i = 1; i <= 20; i++) {
            x.day(1);
            check.due("can be undone", x.told(17), i);
        }
        for (int i = 19; i >= 0; i--) {
            check.due("undone", x.undo(), i);
            check.due("days", x.told(6), i);
        }
        check.due("no more", x.undo(), N);
        for (int i = 1; i <= 21; i++) {
            x.day(1);
        }
        check.due("of 21 deeds", x.told(17), 20);
        for (int i = 19; i >= 0; i--) {
            check.due("undone of 21", x.undo(), i);
            check.due("days of 21", x.told(6), i + 1);
        }
        check.due("the oldest is lost", x.undo(), N);
        check.due("days that stay", x.told(6), 1);
    }

    private static void eachDeedCanBeUndone() {
        TurningWheel x = Check.wheel(TEXT);
        x.day(1);
        check.due("day()", x.told(17), 1);
        x.make(0);
        check.due("make()", x.told(17), 2);
        x.seal(true);
        check.due("seal() as it was", x.told(17), 3);
        x.smash();
        check.due("smash()", x.told(17), 4);
        x.hire(0, false);
        check.due("hire() as it was", x.told(17), 5);
        x.buy(2, 8, 0);
        check.due("buy() as it was", x.told(17), 6);
        x.drift(60);
        check.due("drift(), one for all days", x.told(17), 7);
        x.day(60);
        check.due("day(), one for all days", x.told(17), 8);
        check.due("days", x.told(6), 121);
        check.due("undone", x.undo(), 7);
        check.due("days of drift()", x.told(6), 61);
        check.due("undone, drift()", x.undo(), 6);
        check.due("days ahead of drift()", x.told(6), 1);
    }

    private static void refusedDeedsCannotBeUndone() {
        TurningWheel x = Check.wheel(TEXT);
        x.make(0);
        x.smash();
        x.day(0);
        x.make(0);
        x.make(1);
        x.make(9);
        x.smash();
        x.hire(9, true);
        x.buy(9, 1, 999);
        x.buy(0, 1, 19);
        x.buy(0, 1, 10000);
        x.drift(61);
        check.due("two deeds", x.told(17), 2);
        x.hear(1, true);
        x.write(1);
        x.seed(5);
        x.tear();
        x.feed('w');
        check.due("others are no deeds", x.told(17), 2);
    }

    private static void undoneGotAtMost() {
        TurningWheel x = richServant("w1,1;s1 0;");
        x.buy(0, 2, 9999);
        check.due("the most", x.servant(0, 2), 999999);
        check.due("undone", x.undo(), 19);
        check.due("as ahead of it", x.servant(0, 2), 999900);
        check.due("it says as ahead of it", x.servant(0, 0), 1);
    }

    private interface Deed {
        int on(TurningWheel x);
    }

    /** A castle in which something of all kinds was done; smashed, too, and sealed, as told. */
    private static TurningWheel begun(boolean smashed, boolean sealed) {
        TurningWheel x = Check.wheel(TEXT);
        x.seed(99);
        x.hire(1, true);
        x.day(3);
        x.make(0);
        x.buy(2, 5, 6);
        x.hear(1, true);
        x.write(13);
        x.seal(sealed);
        if (smashed) {
            x.smash();
        }
        return x;
    }

    private static void undoneIsAsAheadOfIt() {
        Deed[] deeds = {x -> x.day(1), x -> x.day(60), x -> x.make(2), x -> x.seal(false), x -> x.seal(true), x -> x.smash(),
            x -> x.hire(0, true), x -> x.hire(1, true), x -> x.hire(1, false), x -> x.buy(0, 8, 20), x -> x.buy(1, 1, 9999),
            x -> x.drift(1), x -> x.drift(60)};
        for (int d = 0; d < deeds.length; d++) {
            undone("deed " + d, deeds[d], false, false);
            // Smashed, or sealed, these would be refused.
            if (d != 2) {
                undone("deed " + d + ", sealed", deeds[d], false, true);
            }
            if (d != 2 && d != 5) {
                undone("deed " + d + ", smashed", deeds[d], true, false);
            }
        }
    }

    private static void undone(String name, Deed deed, boolean smashed, boolean sealed) {
        TurningWheel x = begun(smashed, sealed);
        TurningWheel twin = begun(smashed, sealed);
        check.due(name + " is not refused", Math.min(deed.on(x), 0), 0);
        x.undo();
        // THE SEED stays as it was drawn.
        int seed = x.seed(0);
        x.seed(seed);
        twin.seed(seed);
        check.alike(name + ", undone", x, twin);
    }

    private static void dismissedAlone() {
        TurningWheel x = Check.wheel("w1,1;" + "s1 0;".repeat(5) + "p1 30;");
        for (int s = 0; s < 5; s++) {
            x.hire(s, true);
        }
        int hired = 31;
        for (int s = 4; s >= 0; s--) {
            check.due("dismissed, " + s, x.hire(s, false), 1);
            hired -= 1 << s;
            check.due("the others are hired", x.told(13), hired);
        }
    }

    /** The seed that one draw turns into the one told. */
    private static int seedAheadOf(long then) {
        java.math.BigInteger bound = java.math.BigInteger.ONE.shiftLeft(31);
        return java.math.BigInteger.valueOf(then - 12345L)
            .multiply(java.math.BigInteger.valueOf(1103515245).modInverse(bound)).mod(bound).intValue();
    }

    private static long drawn(long seed) {
        return (seed * 1103515245L + 12345L) % 2147483648L;
    }

    /** Without tests and servants each day has one draw; on 2 alone the seal is changed. */
    private static void drawsOfEachDay() {
        for (int d = 0; d < 16; d++) {
            for (long then : new long[] {d * 65536L, d * 65536L + 65535L, 2147483648L - 16 * 65536L + d * 65536L}) {
                TurningWheel x = Check.wheel("w1,1;");
                x.seed(seedAheadOf(then));
                check.due("drift(1)", x.drift(1), 3);
                check.due("sealed, the draw is " + d + " of 16", x.told(9), d % 8 == 2 ? 0 : 1);
                check.due("drift(1) again, from there", x.told(6), 1);
                check.due("one draw", x.seed(0), then);
            }
        }
    }

    /** On 0 a test is drawn, if there is one; a draw of one test is a draw, too. */
    private static void drawsOfTests() {
        String[] texts = {"w1,1;s1 0;", "w1,1;t2 0 1;s1 0;", "w1,1,1,1,1,1,1;t2 0 1;t4 0 2;t8 0 4;t16 0 8;t32 0 16;t64 0 32;"};
        int[] tests = {0, 1, 6};
        for (int i = 0; i < texts.length; i++) {
            for (int k = 0; k < 40; k++) {
                long first = 524288L * k + 77L * k;
                long second = drawn(first);
                TurningWheel x = Check.wheel(texts[i]);
                x.seed(seedAheadOf(first));
                x.drift(1);
                check.due("made of " + tests[i], x.told(10), tests[i] == 0 ? 0 : 1 << second / 65536 % tests[i]);
                check.due("nobody is hired", x.told(13), 0);
                check.due("draws for " + tests[i], x.seed(0), tests[i] == 0 ? first : second);
            }
        }
    }

    /** On 1 a servant is drawn, if there is one: hired ahead of the day, dismissed ahead of it. */
    private static void drawsOfServants() {
        String[] texts = {"w1,1;t2 0 1;", "w1,1;t2 0 1;s1 0;p1 2;", "w1,1;s1 0;s1 0;s1 0;s1 0;s1 0;p1 2;"};
        int[] servants = {0, 1, 5};
        for (int i = 0; i < texts.length; i++) {
            for (int k = 0; k < 40; k++) {
                long first = 65536L + 524288L * k + 77L * k;
                long second = drawn(first);
                TurningWheel x = Check.wheel(texts[i]);
                x.seed(seedAheadOf(first));
                x.drift(1);
                int s = servants[i] == 0 ? 0 : (int) (second / 65536 % servants[i]);
                check.due("hired of " + servants[i], x.told(13), servants[i] == 0 ? 0 : 1 << s);
                check.due("nothing is made", x.told(10), 0);
                check.due("draws for " + servants[i], x.seed(seedAheadOf(first)), servants[i] == 0 ? first : second);
                if (servants[i] > 0) {
                    check.due("the day counts", x.servant(s, 3), 1);
                    x.drift(1);
                    check.due("dismissed ahead of the day", x.told(13), 0);
                    check.due("so it is not paid", x.servant(s, 2), 0);
                }
            }
        }
    }

    /** A test is drawn though it cannot be made: sealed, made, smashed. */
    private static void drawnTestsThatCannotBeMade() {
        TurningWheel x = Check.wheel("w1,1;t2 1 1;");
        x.seed(seedAheadOf(0));
        check.due("sealed", x.drift(1), 3);
        check.due("sealed, two draws", x.seed(seedAheadOf(0)), drawn(0));
        x.seal(false);
        check.due("unsealed", x.drift(1), 1);
        check.due("spent", x.told(14), 1);
        x.seed(seedAheadOf(0));
        check.due("made", x.drift(1), 1);
        check.due("made, two draws", x.seed(0), drawn(0));
        check.due("spent once", x.told(14), 1);
        x = Check.wheel("w1,1;t2 0 1;");
        x.smash();
        x.seed(seedAheadOf(0));
        check.due("smashed", x.drift(1), 3);
        check.due("smashed, two draws", x.seed(0), drawn(0));
    }
}
