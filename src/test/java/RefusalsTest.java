/** Of several refusals the first in the document's order, and what is refused changes nothing. */
public final class RefusalsTest {
    private static final int U = TurningWheel.UNKNOWN, O = TurningWheel.OUTSIDE, N = TurningWheel.NOT, F = TurningWheel.FULL;
    private static final String TEXT = "w10,30,20,40;t2 0 50;t6 1 30;t8 0 90;s3 20;s14 500;p2 7;";
    private static final Check check = new Check("RefusalsTest");

    /** One call that is refused. */
    private interface Call {
        int on(TurningWheel x);
    }

    /** How an object comes to where the call is made: each time one alike. */
    private interface Begin {
        TurningWheel make();
    }

    public static void main(String[] args) {
        theLeastRefusals();
        ofTheCastle();
        ofDays();
        ofDeeds();
        ofBuying();
        ofUndo();
        ofWhatIsTried();
        ofMoney();
        ofWhatIsHeard();
        ofSeedsAndImages();
        aFaultChangesTheTextAlone();
        aCastleBeginsAnew();
        whatIsTriedChangesNothing();
        check.end();
    }

    /** No castle, but all that can be there without one. */
    private static TurningWheel nothing() {
        TurningWheel x = new TurningWheel();
        x.seed(5);
        x.keep(1);
        x.seed(77);
        x.write(0);
        return x;
    }

    /** That, and a text begun. */
    private static TurningWheel bare() {
        TurningWheel x = nothing();
        Check.feed(x, "w1,1;s");
        return x;
    }

    /** A castle in which something of all kinds was done. */
    private static TurningWheel done() {
        TurningWheel x = Check.wheel(TEXT);
        Check.feed(x, "w1,0");
        x.castle();
        x.seed(5);
        x.hire(1, true);
        x.day(3);
        x.keep(0);
        x.seed(77);
        x.make(0);
        x.day(9);
        x.seal(false);
        x.buy(0, 8, 21);
        x.make(1);
        x.smash();
        x.day(2);
        x.hear(3, false);
        x.hear(59, true);
        x.write(9);
        x.write(13);
        return x;
    }

    /** That, and the next text. */
    private static TurningWheel busy() {
        TurningWheel x = done();
        Check.feed(x, "w1,1;s1 1;");
        return x;
    }

    /** All that has a bound of its own is full, but for the days. */
    private static TurningWheel full() {
        TurningWheel x = Check.wheel("w1,1;t2 0 1;s1 5;p1 30;");
        x.make(0);
        for (int i = 0; i < 20; i++) {
            x.day(1);
        }
        for (int i = 0; i < 6; i++) {
            x.hear(i, false);
        }
        for (int i = 0; i < 15; i++) {
            x.write(i % 4);
        }
        Check.feed(x, "w1,1;s1 1;" + " ".repeat(230));
        return x;
    }

    /** So late that no day may begin. */
    private static TurningWheel late() {
        TurningWheel x = Check.wheel("w1,1;s1 0;");
        x.hire(0, true);
        for (int i = 0; i < 151; i++) {
            x.day(60);
        }
        return x;
    }

    private static void refused(String name, Begin begin, Call call, int due) {
        TurningWheel x = begin.make();
        check.due(name, call.on(x), due);
        check.alike(name, x, begin.make());
    }

    private static void theLeastRefusals() {
        check.due("UNKNOWN is the first", U, -1000000001);
        check.due("OUTSIDE is the second", O, -1000000002);
        check.due("NOT is the third", N, -1000000003);
        check.due("FULL is the fourth", F, -1000000004);
        check.due("NONE is none of them", TurningWheel.NONE, -1);
    }

    private static void ofTheCastle() {
        refused("feed(256)", RefusalsTest::busy, x -> x.feed(256), O);
        refused("feed(-1)", RefusalsTest::bare, x -> x.feed(-1), O);
        refused("feed('x'), full", RefusalsTest::full, x -> x.feed('x'), F);
        refused("feed(256), full", RefusalsTest::full, x -> x.feed(256), O);
        refused("feed(-1), full", RefusalsTest::full, x -> x.feed(-1), O);
        refused("told(18)", RefusalsTest::busy, x -> x.told(18), O);
        refused("told(18), no castle", RefusalsTest::bare, x -> x.told(18), O);
        refused("likely(4)", RefusalsTest::busy, x -> x.likely(4), U);
        refused("test(3, 0)", RefusalsTest::busy, x -> x.test(3, 0), U);
        refused("test(0, 4)", RefusalsTest::busy, x -> x.test(0, 4), O);
        refused("test(3, 4)", RefusalsTest::busy, x -> x.test(3, 4), U);
        refused("test(-1, -1)", RefusalsTest::busy, x -> x.test(-1, -1), U);
        refused("test(0, 4), no castle", RefusalsTest::bare, x -> x.test(0, 4), U);
        refused("servant(2, 0)", RefusalsTest::busy, x -> x.servant(2, 0), U);
        refused("servant(0, 4)", RefusalsTest::busy, x -> x.servant(0, 4), O);
        refused("servant(2, 4)", RefusalsTest::busy, x -> x.servant(2, 4), U);
        refused("servant(-1, -1)", RefusalsTest::busy, x -> x.servant(-1, -1), U);
        refused("servant(0, 4), no castle", RefusalsTest::bare, x -> x.servant(0, 4), U);
    }

    private static void ofDays() {
        refused("day(0)", RefusalsTest::busy, x -> x.day(0), O);
        refused("day(61)", RefusalsTest::full, x -> x.day(61), O);
        refused("day(1), no castle", RefusalsTest::bare, x -> x.day(1), N);
        refused("day(0), no castle", RefusalsTest::bare, x -> x.day(0), O);
        refused("day(61), no castle", RefusalsTest::bare, x -> x.day(61), O);
        refused("day(1), late", RefusalsTest::late, x -> x.day(1), F);
        refused("day(60), late", RefusalsTest::late, x -> x.day(60), F);
        refused("day(0), late", RefusalsTest::late, x -> x.day(0), O);
        refused("day(61), late", RefusalsTest::late, x -> x.day(61), O);
        refused("drift(0)", RefusalsTest::busy, x -> x.drift(0), O);
        refused("drift(61)", RefusalsTest::full, x -> x.drift(61), O);
        refused("drift(1), no castle", RefusalsTest::bare, x -> x.drift(1), N);
        refused("drift(0), no castle", RefusalsTest::bare, x -> x.drift(0), O);
        refused("drift(61), no castle", RefusalsTest::bare, x -> x.drift(61), O);
        refused("drift(1), late", RefusalsTest::late, x -> x.drift(1), F);
        refused("drift(60), late", RefusalsTest::late, x -> x.drift(60), F);
        refused("drift(0), late", RefusalsTest::late, x -> x.drift(0), O);
        refused("drift(61), late", RefusalsTest::late, x -> x.drift(61), O);
    }

    private static void ofDeeds() {
        refused("make(3)", RefusalsTest::busy, x -> x.make(3), U);
        refused("make(-1)", RefusalsTest::busy, x -> x.make(-1), U);
        refused("make(0), no castle", RefusalsTest::bare, x -> x.make(0), U);
        refused("make(2), smashed", RefusalsTest::busy, x -> x.make(2), N);
        refused("make(0), made, smashed", RefusalsTest::busy, x -> x.make(0), N);
        refused("make(0), made", RefusalsTest::full, x -> x.make(0), N);
        refused("make(1), sealed", () -> Check.wheel(TEXT), x -> x.make(1), N);
        refused("seal(true), no castle", RefusalsTest::bare, x -> x.seal(true), N);
        refused("seal(false), no castle", RefusalsTest::bare, x -> x.seal(false), N);
        refused("smash(), no castle", RefusalsTest::bare, x -> x.smash(), N);
        refused("smash(), smashed", RefusalsTest::busy, x -> x.smash(), N);
        refused("hire(2, true)", RefusalsTest::busy, x -> x.hire(2, true), U);
        refused("hire(-1, false)", RefusalsTest::busy, x -> x.hire(-1, false), U);
        refused("hire(0, true), no castle", RefusalsTest::bare, x -> x.hire(0, true), U);
    }

    private static void ofBuying() {
        refused("a servant that there is not", RefusalsTest::busy, x -> x.buy(2, 1, 999), U);
        refused("ways that there are not", RefusalsTest::busy, x -> x.buy(0, 16, 999), U);
        refused("no ways", RefusalsTest::busy, x -> x.buy(0, 0, 999), U);
        refused("for 10000", RefusalsTest::busy, x -> x.buy(0, 1, 10000), O);
        refused("for less than P", RefusalsTest::busy, x -> x.buy(0, 1, 19), N);
        refused("for less than P, full", RefusalsTest::full, x -> x.buy(0, 1, 4), N);
        refused("a servant that there is not, for 10000", RefusalsTest::busy, x -> x.buy(2, 1, 10000), U);
        refused("a servant that there is not, for -1", RefusalsTest::busy, x -> x.buy(-1, 1, -1), U);
        refused("ways that there are not, for 10000", RefusalsTest::busy, x -> x.buy(0, 16, 10000), U);
        refused("ways that there are not, for -1", RefusalsTest::busy, x -> x.buy(0, -1, -1), U);
        refused("ways that there are not, for less than P", RefusalsTest::busy, x -> x.buy(0, 16, 0), U);
        refused("no ways, for 10000", RefusalsTest::busy, x -> x.buy(0, 0, 10000), U);
        refused("no ways, for less than P", RefusalsTest::busy, x -> x.buy(0, 0, 0), U);
        refused("for -1, which is less than P", RefusalsTest::busy, x -> x.buy(0, 1, -1), O);
        refused("no castle, for 10000", RefusalsTest::bare, x -> x.buy(0, 0, 10000), U);
    }

    private static void ofUndo() {
        refused("undo(), no castle", RefusalsTest::bare, x -> x.undo(), N);
        refused("undo(), nothing was done", () -> Check.wheel(TEXT), x -> x.undo(), N);
        refused("undo(), kept", () -> {
            TurningWheel x = busy();
            x.keep(1);
            return x;
        }, x -> x.undo(), N);
    }

    private static void ofWhatIsTried() {
        refused("belief(4)", RefusalsTest::busy, x -> x.belief(4), U);
        refused("belief(0), no castle", RefusalsTest::bare, x -> x.belief(0), U);
        refused("liars(4)", RefusalsTest::busy, x -> x.liars(4), U);
        refused("liars(0), no castle", RefusalsTest::bare, x -> x.liars(0), U);
        refused("leastLiars(2)", RefusalsTest::busy, x -> x.leastLiars(2), O);
        refused("leastLiars(0), no castle", RefusalsTest::bare, x -> x.leastLiars(0), N);
        refused("leastLiars(2), no castle", RefusalsTest::bare, x -> x.leastLiars(2), O);
        refused("leastLiars(-1), no castle", RefusalsTest::bare, x -> x.leastLiars(-1), O);
        refused("ruleOut(1, 0, 0)", RefusalsTest::busy, x -> x.ruleOut(1, 0, 0), U);
        refused("ruleOut(16, 0, 0)", RefusalsTest::busy, x -> x.ruleOut(16, 0, 0), U);
        refused("ruleOut(2, 64, 0)", RefusalsTest::busy, x -> x.ruleOut(2, 64, 0), U);
        refused("ruleOut(2, 0, 2)", RefusalsTest::busy, x -> x.ruleOut(2, 0, 2), O);
        refused("ruleOut(1, 0, 2)", RefusalsTest::busy, x -> x.ruleOut(1, 0, 2), U);
        refused("ruleOut(16, 0, 2)", RefusalsTest::busy, x -> x.ruleOut(16, 0, 2), U);
        refused("ruleOut(2, 64, 2)", RefusalsTest::busy, x -> x.ruleOut(2, 64, 2), U);
        refused("ruleOut(2, -1, -1)", RefusalsTest::busy, x -> x.ruleOut(2, -1, -1), U);
        refused("ruleOut(2, 0, 2), no castle", RefusalsTest::bare, x -> x.ruleOut(2, 0, 2), U);
        refused("ruleOut(0, 0, 2), no castle", RefusalsTest::bare, x -> x.ruleOut(0, 0, 2), O);
        refused("ruleOut(0, 64, 2), no castle", RefusalsTest::bare, x -> x.ruleOut(0, 64, 2), U);
    }

    private static void ofMoney() {
        refused("offer(10000, 0)", RefusalsTest::busy, x -> x.offer(10000, 0), O);
        refused("offer(0, 10000)", RefusalsTest::busy, x -> x.offer(0, 10000), O);
        refused("offer(0, 0), no castle", RefusalsTest::bare, x -> x.offer(0, 0), N);
        refused("offer(-1, 0), no castle", RefusalsTest::bare, x -> x.offer(-1, 0), O);
        refused("offer(0, 10000), no castle", RefusalsTest::bare, x -> x.offer(0, 10000), O);
        refused("both(0, 0, 10000)", RefusalsTest::busy, x -> x.both(0, 0, 10000), O);
        refused("both(0, 0, 0), no castle", RefusalsTest::bare, x -> x.both(0, 0, 0), N);
        refused("both(-1, 0, 0), no castle", RefusalsTest::bare, x -> x.both(-1, 0, 0), O);
        refused("both(0, 10000, 0), no castle", RefusalsTest::bare, x -> x.both(0, 10000, 0), O);
        refused("both(0, 0, -1), no castle", RefusalsTest::bare, x -> x.both(0, 0, -1), O);
        refused("worth(3, 0)", RefusalsTest::busy, x -> x.worth(3, 0), U);
        refused("worth(0, 10000)", RefusalsTest::busy, x -> x.worth(0, 10000), O);
        refused("worth(3, 10000)", RefusalsTest::busy, x -> x.worth(3, 10000), U);
        refused("worth(0, -1), no castle", RefusalsTest::bare, x -> x.worth(0, -1), U);
        refused("secret(61, 0)", RefusalsTest::busy, x -> x.secret(61, 0), O);
        refused("secret(0, 101), no castle", RefusalsTest::bare, x -> x.secret(0, 101), O);
    }

    private static void ofWhatIsHeard() {
        refused("hear(60)", RefusalsTest::busy, x -> x.hear(60, true), O);
        refused("hear(-1)", RefusalsTest::busy, x -> x.hear(-1, false), O);
        refused("hear(0), no castle", RefusalsTest::bare, x -> x.hear(0, true), N);
        refused("hear(60), no castle", RefusalsTest::bare, x -> x.hear(60, true), O);
        refused("hear(0), full", RefusalsTest::full, x -> x.hear(0, true), F);
        refused("hear(60), full", RefusalsTest::full, x -> x.hear(60, true), O);
        refused("hear(-1), full", RefusalsTest::full, x -> x.hear(-1, true), O);
        refused("paid(), no castle", RefusalsTest::bare, x -> x.paid(), N);
        refused("ask(), no castle", RefusalsTest::bare, x -> x.ask(), N);
        refused("write(16)", RefusalsTest::busy, x -> x.write(16), U);
        refused("write(1), no castle", RefusalsTest::bare, x -> x.write(1), U);
        refused("write(0), full", RefusalsTest::full, x -> x.write(0), F);
        refused("write(4), full", RefusalsTest::full, x -> x.write(4), U);
        refused("write(-1), full", RefusalsTest::full, x -> x.write(-1), U);
    }

    private static void ofSeedsAndImages() {
        refused("seed(-1)", RefusalsTest::busy, x -> x.seed(-1), O);
        refused("seed(-1), no castle", RefusalsTest::bare, x -> x.seed(-1), O);
        refused("keep(2)", RefusalsTest::busy, x -> x.keep(2), U);
        refused("keep(-1), full", RefusalsTest::full, x -> x.keep(-1), U);
        refused("goBack(2)", RefusalsTest::busy, x -> x.goBack(2), U);
        refused("goBack(-1)", RefusalsTest::busy, x -> x.goBack(-1), U);
        refused("goBack(1), not kept", RefusalsTest::busy, x -> x.goBack(1), N);
        refused("goBack(0), not kept, full", RefusalsTest::full, x -> x.goBack(0), N);
        refused("goBack(2), none is kept", RefusalsTest::full, x -> x.goBack(2), U);
        refused("goBack(0), no castle", RefusalsTest::bare, x -> x.goBack(0), N);
    }

    /** castle() of a text with a fault: all but the text and the fault's place is as it was. */
    private static void aFaultChangesTheTextAlone() {
        for (Begin begin : new Begin[] {RefusalsTest::nothing, RefusalsTest::done}) {
            fault(begin, "x", -11, 0);
            fault(begin, "w9", -11, 2);
            fault(begin, "w9,9,9;t2 1 1;s7 9;p9 9;w", -13, 24);
            fault(begin, "w9,9;p9 9;s1 1;s0 1;", -12, 16);
            fault(begin, "w9,9,9,9,9,9,9,9;t254 63 999", -11, 28);
        }
    }

    private static void fault(Begin begin, String text, int answer, int place) {
        TurningWheel x = begin.make();
        Check.feed(x, text);
        check.due("castle of '" + text + "'", x.castle(), answer);
        check.due("fault of '" + text + "'", x.fault(), place);
        check.alike("'" + text + "'", Trace.of(x), Trace.of(begin.make()), "fault() is");
    }

    /** castle() of a good text, or an empty one: all but THE SEED is as in a new object. */
    private static void aCastleBeginsAnew() {
        for (Begin begin : new Begin[] {RefusalsTest::nothing, RefusalsTest::done, RefusalsTest::late}) {
            for (String text : new String[] {"", "  ", "w1,2;", "w1,2,3;t6 1 2;s3 4;s5 6;s7 8;p9 10;"}) {
                TurningWheel x = begin.make();
                TurningWheel anew = new TurningWheel();
                int seed = x.seed(0);
                x.seed(seed);
                anew.seed(seed);
                Check.feed(anew, text);
                int ways = anew.castle();
                Check.feed(x, text);
                check.due("castle of '" + text + "'", x.castle(), ways);
                // Once more, for what the first castle may have left behind.
                Check.feed(x, text);
                check.due("castle of '" + text + "' again", x.castle(), ways);
                check.alike("'" + text + "'", x, anew);
            }
        }
    }

    private static void whatIsTriedChangesNothing() {
        for (Begin begin : new Begin[] {RefusalsTest::bare, RefusalsTest::busy, RefusalsTest::full}) {
            TurningWheel x = begin.make();
            for (int k = 0; k < 3; k++) {
                x.belief(k);
                x.liars(k);
                x.leastLiars(k);
                x.ruleOut(2 * k, 63, k & 1);
                x.offer(k, k);
                x.both(k, k, k);
                x.worth(k, 9999);
                x.secret(k, k);
                x.likely(k);
                x.test(k, k);
                x.servant(k, k);
                x.told(k);
            }
            x.next();
            x.paid();
            x.ask();
            x.judge();
            x.fault();
            check.alike("all that is tried", x, begin.make());
        }
    }
}
