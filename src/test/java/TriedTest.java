/** Promises 17 to 25: belief, liars, tests to rule out, which next, offers, what a test is worth, secrets. */
public final class TriedTest {
    private static final int U = TurningWheel.UNKNOWN, O = TurningWheel.OUTSIDE, N = TurningWheel.NOT;
    private static final String TEXT = "w10,30,20,40;t2 0 50;t6 1 30;t8 2 90;t14 7 400;s3 20;s14 500;s8 0;p2 7;";
    private static final Check check = new Check("TriedTest");

    public static void main(String[] args) {
        belief();
        liars();
        ruleOut();
        ruleOutTies();
        ruleOutMade();
        next();
        nextTies();
        offers();
        worth();
        secrets();
        check.end();
    }

    private static void belief() {
        TurningWheel x = Check.wheel("w1,1,1;t2 0 0;t4 0 0;");
        check.due("a third", x.belief(0), 333333);
        check.due("a third, too", x.belief(2), 333333);
        check.due("belief(3)", x.belief(3), U);
        check.due("belief(-1)", x.belief(-1), U);
        x.make(0);
        check.due("a half", x.belief(0), 500000);
        check.due("out", x.belief(1), 0);
        x.make(1);
        check.due("sure", x.belief(0), 1000000);
        x = Check.wheel("w1,999,999,999,999,999,999,999;");
        check.due("least", x.belief(0), 142);
        check.due("others", x.belief(7), 142836);
    }

    private static void liars() {
        TurningWheel x = Check.wheel(TEXT);
        int[] due = {6, 4, 5, 1};
        for (int w = 0; w < 4; w++) {
            check.due("liars(" + w + ")", x.liars(w), due[w]);
        }
        check.due("liars(4)", x.liars(4), U);
        check.due("leastLiars(2)", x.leastLiars(2), O);
        check.due("leastLiars(-1)", x.leastLiars(-1), O);
        check.due("least way", x.leastLiars(0), 1);
        check.due("least liars", x.leastLiars(1), 1);
        x.make(0);
        check.due("liars by what is out", x.liars(1), 4);
        check.due("least way left", x.leastLiars(0), 3);
        x.buy(0, 5, 20);
        x.buy(2, 5, 0);
        check.due("bought", x.leastLiars(0), 2);
        check.due("bought, none lies", x.leastLiars(1), 0);
        check.due("no servants", Check.wheel("w1,1;").leastLiars(0), 0);
        check.due("no servants, none lies", Check.wheel("w1,1;").leastLiars(1), 0);
        check.due("no castle", new TurningWheel().leastLiars(1), N);
        check.due("no castle, outside", new TurningWheel().leastLiars(2), O);
    }

    private static void ruleOut() {
        TurningWheel x = Check.wheel(TEXT);
        check.due("way 0", x.ruleOut(1, 0, 0), U);
        check.due("unknown ways", x.ruleOut(16, 0, 2), U);
        check.due("all bits", x.ruleOut(-2, 0, 0), U);
        check.due("secrets 64", x.ruleOut(2, 64, 2), U);
        check.due("secrets -1", x.ruleOut(2, -1, 0), U);
        check.due("what 2", x.ruleOut(2, 0, 2), O);
        check.due("what -1", x.ruleOut(2, 0, -1), O);
        check.due("nothing", x.ruleOut(0, 63, 0), 0);
        check.due("nothing's cost", x.ruleOut(0, 63, 1), 0);
        check.due("sealed does not matter", x.ruleOut(8, 2, 0), 4);
        check.due("its cost", x.ruleOut(8, 2, 1), 90);
        check.due("two are cheaper than one", x.ruleOut(14, 63, 0), 6);
        check.due("their cost", x.ruleOut(14, 63, 1), 120);
        check.due("none", x.ruleOut(4, 6, 0), -1);
        check.due("none's cost", x.ruleOut(4, 6, 1), -1);
        x.smash();
        check.due("smashed does not matter", x.ruleOut(14, 63, 0), 6);
        check.due("no castle", new TurningWheel().ruleOut(2, 0, 0), U);
        check.due("no castle, what", new TurningWheel().ruleOut(0, 0, 2), O);
    }

    private static void ruleOutTies() {
        TurningWheel x = Check.wheel("w1,1,1;t6 0 4;t2 0 2;t4 0 2;t2 0 0;");
        check.due("of like ones the least", x.ruleOut(6, 0, 0), 1 << 2 | 1 << 3);
        check.due("cost", x.ruleOut(6, 0, 1), 2);
        x = Check.wheel("w1,1,1;t6 0 4;t2 0 2;t4 0 2;");
        check.due("one set of like cost", x.ruleOut(6, 0, 0), 1);
        x = Check.wheel("w1,1,1;t2 0 2;t4 0 2;t6 0 4;");
        check.due("the other way round", x.ruleOut(6, 0, 0), 3);
    }

    private static void ruleOutMade() {
        TurningWheel x = Check.wheel("w1,1,1;t2 1 50;t2 0 60;t4 0 9;");
        x.seal(false);
        x.make(0);
        check.due("made costs nothing", x.ruleOut(2, 1, 1), 0);
        check.due("made is in the set", x.ruleOut(2, 1, 0), 1);
        check.due("made shows its secret, too", x.ruleOut(2, 0, 0), 2);
        check.due("cost without it", x.ruleOut(2, 0, 1), 60);
        check.due("what is out already needs its test", x.ruleOut(6, 1, 0), 5);
        check.due("cost of the rest", x.ruleOut(6, 1, 1), 9);
        check.due("made is not taken without need", x.ruleOut(4, 63, 0), 4);
    }

    private static void next() {
        TurningWheel x = Check.wheel(TEXT);
        check.due("next", x.next(), 3);
        x.seal(false);
        x.make(1);
        check.due("next then, the cheaper of like ones", x.next(), 2);
        x.smash();
        check.due("next, smashed", x.next(), 2);
        check.due("the first is best", Check.wheel("w1,1,1;t6 0 9;t2 0 0;").next(), 0);
        check.due("no tests", Check.wheel("w1,1;").next(), -1);
        check.due("tests of nothing", Check.wheel("w1,1;t0 0 0;").next(), -1);
        check.due("no castle", new TurningWheel().next(), -1);
    }

    private static void nextTies() {
        TurningWheel x = Check.wheel("w5,3,1,2;t0 0 0;t2 0 9;t12 0 8;t12 0 8;t2 0 8;t4 0 0;");
        check.due("cheapest, then least", x.next(), 2);
        x.make(2);
        check.due("the next of them", x.next(), 4);
        x.make(1);
        check.due("none rules out any", x.next(), -1);
    }

    private static void offers() {
        TurningWheel x = Check.wheel(TEXT);
        check.due("offer(-1)", x.offer(-1, 0), O);
        check.due("offer(10000)", x.offer(10000, 0), O);
        check.due("offer c -1", x.offer(0, -1), O);
        check.due("offer c 10000", x.offer(0, 10000), O);
        check.due("offer", x.offer(9999, 0), 999);
        check.due("offer less costs", x.offer(9999, 998), 1);
        check.due("offer of nothing", x.offer(9999, 1000), 0);
        check.due("both w -1", x.both(0, 0, -1), O);
        check.due("both w 10000", x.both(0, 0, 10000), O);
        check.due("both v", x.both(10000, 0, 0), O);
        check.due("both c", x.both(0, -1, 0), O);
        check.due("both", x.both(9999, 99, 0), 450);
        check.due("both, half cut", x.both(9999, 0, 0), 499);
        check.due("both, one more", x.both(1000, 0, 99), 0);
        check.due("both, like", x.both(1000, 0, 100), 0);
        check.due("both, less", x.both(1000, 0, 9999), 0);
        x = Check.wheel("w1,1,1;t2 0 0;t4 0 0;");
        check.due("by belief as cut", x.offer(3, 0), 0);
        x.make(0);
        x.make(1);
        check.due("sure", x.offer(9999, 0), 9999);
        check.due("both, sure", x.both(9999, 0, 0), 4999);
        TurningWheel none = new TurningWheel();
        check.due("offer, no castle", none.offer(0, 0), N);
        check.due("offer, outside, no castle", none.offer(-1, 0), O);
        check.due("both, no castle", none.both(0, 0, 0), N);
        check.due("both, outside, no castle", none.both(0, 0, -1), O);
    }

    private static void worth() {
        TurningWheel x = Check.wheel(TEXT);
        check.due("worth(4)", x.worth(4, -1), U);
        check.due("worth(-1)", x.worth(-1, 0), U);
        check.due("worth v -1", x.worth(0, -1), O);
        check.due("worth v 10000", x.worth(0, 10000), O);
        check.due("worth of nothing", x.worth(3, 0), 99600);
        check.due("worth", x.worth(3, 9999), 108600);
        check.due("worth, cut", x.worth(0, 1000), 99992);
        x.make(0);
        check.due("worth, made", x.worth(0, 9999), 99950);
        check.due("worth then", x.worth(2, 1000), 100101);
    }

    private static void secrets() {
        TurningWheel x = new TurningWheel();
        check.due("secret(-1)", x.secret(-1, 0), O);
        check.due("secret(61)", x.secret(61, 0), O);
        check.due("secret q -1", x.secret(0, -1), O);
        check.due("secret q 101", x.secret(0, 101), O);
        check.due("none", x.secret(0, 100), 1000000);
        check.due("sure to tell", x.secret(1, 100), 0);
        check.due("sure not to", x.secret(60, 0), 1000000);
        check.due("two by a third", x.secret(2, 33), 448900);
        // 670000, 448900, 300763, 201511.21, 135012.37: cut at each
        check.due("five by a third, cut each", x.secret(5, 33), 135012);
        long odds = 1000000;
        for (int n = 1; n <= 60; n++) {
            odds = odds * 93 / 100;
            check.due("secret(" + n + ", 7)", x.secret(n, 7), odds);
        }
    }
}
