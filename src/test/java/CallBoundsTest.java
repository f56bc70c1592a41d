/** Section 3 and promises 5 to 8 and 17 to 34 at their edges: the last input that is still good, the first that is not. */
public final class CallBoundsTest {
    private static final int U = TurningWheel.UNKNOWN, O = TurningWheel.OUTSIDE, N = TurningWheel.NOT, F = TurningWheel.FULL;
    private static final int LEAST = Integer.MIN_VALUE, GREATEST = Integer.MAX_VALUE;
    private static final int[] FAR = {LEAST, LEAST + 1, -32, -2, -1, 8, 9, 32, 64, 256, GREATEST - 1, GREATEST};
    private static final String TEXT = "w10,30,20,40;t2 0 50;t6 1 30;t8 2 90;s3 20;s14 999;s8 0;p2 7;";
    private static final String FULLEST = "w1,999,999,999,999,999,999,999;t254 63 999;t128 32 0;t64 16 0;t32 8 0;t16 4 0;t14 3 0;"
        + "s255 0;s128 999;s1 1;s2 2;s254 3;p99 30;";
    private static final Check check = new Check("CallBoundsTest");

    public static void main(String[] args) {
        toldIs0To17();
        toldWithoutACastle();
        likelyIsOfWaysThereAre();
        testIs0To3();
        servantIs0To3();
        beliefIsOfWaysThereAre();
        beliefIsCut();
        liarsAreOfWaysThereAre();
        leastLiarsIs0To1();
        leastLiarsOfLikeOnes();
        ruleOutIs0To1();
        ruleOutIsOfWaysThereAreWithout0();
        ruleOutSecretsAre0To63();
        ruleOutNothingAndAll();
        nextIsNoneWhereNoneRulesOut();
        offerIs0To9999();
        offerIs0AtLeast();
        bothIs0To9999();
        bothGainIfItIsMore();
        worthIs0To9999();
        secretIs60AtMost();
        secretIsByAHundredAtMost();
        hearIs0To59();
        heardAre6AtMost();
        paidIsTo29();
        askIsNoneWhereNoneParts();
        bookHas15Entries();
        bookIsOfWaysThereAre();
        judgeIsTheFirst();
        seedIs0ToTheMost();
        seedIsLeftOverByTwoToThe31();
        imagesAre0And1();
        imagesKeepNothingToUndo();
        goneBackIsAsKept();
        theFullestCastle();
        noCastle();
        check.end();
    }

    private static void toldIs0To17() {
        TurningWheel x = Check.wheel(TEXT);
        check.due("told(-1)", x.told(-1), O);
        check.due("told(0)", x.told(0), 4);
        x.day(1);
        check.due("told(17)", x.told(17), 1);
        check.due("told(18)", x.told(18), O);
        check.due("told(least)", x.told(LEAST), O);
        check.due("told(greatest)", x.told(GREATEST), O);
    }

    private static void toldWithoutACastle() {
        TurningWheel x = new TurningWheel();
        for (int what = 0; what <= 17; what++) {
            check.due("told(" + what + ") of a new object", x.told(what), 0);
        }
        check.due("told(18) of a new object", x.told(18), O);
        x = Check.wheel(TEXT);
        x.make(0);
        x.hire(0, true);
        x.day(9);
        x.hear(1, true);
        x.write(1);
        x.castle();
        for (int what = 0; what <= 17; what++) {
            check.due("told(" + what + ") behind an empty text", x.told(what), 0);
        }
    }

    private static void likelyIsOfWaysThereAre() {
        TurningWheel x = Check.wheel(TEXT);
        check.due("likely(-1)", x.likely(-1), U);
        check.due("likely(0)", x.likely(0), 10);
        check.due("likely(3)", x.likely(3), 40);
        check.due("likely(4)", x.likely(4), U);
        check.due("likely(7)", Check.wheel(FULLEST).likely(7), 999);
        for (int w : FAR) {
            check.due("likely(" + w + ")", Check.wheel(FULLEST).likely(w), U);
        }
    }

    private static void testIs0To3() {
        TurningWheel x = Check.wheel(TEXT);
        check.due("test(-1, 0)", x.test(-1, 0), U);
        check.due("test(0, 0)", x.test(0, 0), 2);
        check.due("test(2, 2)", x.test(2, 2), 90);
        check.due("test(3, 0)", x.test(3, 0), U);
        check.due("test(0, -1)", x.test(0, -1), O);
        check.due("test(0, 4)", x.test(0, 4), O);
        check.due("test(2, 3), not made", x.test(2, 3), 0);
        x.make(0);
        check.due("test(0, 3), made", x.test(0, 3), 1);
        x = Check.wheel(FULLEST);
        check.due("test(5, 0)", x.test(5, 0), 14);
        check.due("test(6, 0)", x.test(6, 0), U);
        for (int far : FAR) {
            check.due("test(" + far + ", 0)", x.test(far, 0), U);
            check.due("test(0, " + far + ")", x.test(0, far), O);
        }
    }

    private static void servantIs0To3() {
        TurningWheel x = Check.wheel(TEXT);
        check.due("servant(-1, 0)", x.servant(-1, 0), U);
        check.due("servant(0, 0)", x.servant(0, 0), 3);
        check.due("servant(2, 0)", x.servant(2, 0), 8);
        check.due("servant(3, 0)", x.servant(3, 0), U);
        check.due("servant(0, -1)", x.servant(0, -1), O);
        check.due("servant(0, 3), not hired", x.servant(0, 3), -1);
        check.due("servant(0, 4)", x.servant(0, 4), O);
        x.hire(0, true);
        check.due("servant(0, 3), hired", x.servant(0, 3), 0);
        x = Check.wheel(FULLEST);
        check.due("servant(4, 1)", x.servant(4, 1), 3);
        check.due("servant(5, 1)", x.servant(5, 1), U);
        for (int far : FAR) {
            check.due("servant(" + far + ", 0)", x.servant(far, 0), U);
            check.due("servant(0, " + far + ")", x.servant(0, far), O);
        }
    }

    private static void beliefIsOfWaysThereAre() {
        TurningWheel x = Check.wheel(TEXT);
        check.due("belief(-1)", x.belief(-1), U);
        check.due("belief(0)", x.belief(0), 100000);
        check.due("belief(3)", x.belief(3), 400000);
        check.due("belief(4)", x.belief(4), U);
        for (int far : FAR) {
            check.due("belief(" + far + ")", Check.wheel(FULLEST).belief(far), U);
        }
    }

    private static void beliefIsCut() {
        TurningWheel x = Check.wheel(FULLEST);
        check.due("1 of 6994", x.belief(0), 142);
        check.due("999 of 6994", x.belief(7), 142836);
        x.seal(false);
        x.make(0);
        check.due("1 of 1", x.belief(0), 1000000);
        check.due("out", x.belief(7), 0);
        check.due("2 of 3", Check.wheel("w2,1;").belief(0), 666666);
        check.due("999 of 1000", Check.wheel("w999,1;").belief(0), 999000);
        check.due("1 of 1000", Check.wheel("w999,1;").belief(1), 1000);
    }

    private static void liarsAreOfWaysThereAre() {
        TurningWheel x = Check.wheel(FULLEST);
        check.due("liars(-1)", x.liars(-1), U);
        check.due("liars(0)", x.liars(0), 26);
        check.due("liars(7)", x.liars(7), 12);
        check.due("liars(8)", x.liars(8), U);
        check.due("liars(4) of four", Check.wheel(TEXT).liars(4), U);
        check.due("liars(3) of four", Check.wheel(TEXT).liars(3), 1);
        for (int far : FAR) {
            check.due("liars(" + far + ")", x.liars(far), U);
        }
        check.due("all lie", Check.wheel("w1,1;" + "s2 0;".repeat(5)).liars(0), 31);
        check.due("no servants", Check.wheel("w1,1;").liars(1), 0);
    }

    private static void leastLiarsIs0To1() {
        TurningWheel x = Check.wheel(FULLEST);
        check.due("leastLiars(-1)", x.leastLiars(-1), O);
        check.due("leastLiars(0)", x.leastLiars(0), 1);
        check.due("leastLiars(1)", x.leastLiars(1), 2);
        check.due("leastLiars(2)", x.leastLiars(2), O);
        for (int far : FAR) {
            check.due("leastLiars(" + far + ")", x.leastLiars(far), O);
        }
    }

    private static void leastLiarsOfLikeOnes() {
        check.due("all alike", Check.wheel("w1,1,1;s7 0;").leastLiars(0), 0);
        check.due("the latter two alike", Check.wheel("w1,1,1;s6 0;").leastLiars(0), 1);
        check.due("all five lie by all but the last", Check.wheel("w1,1,1;" + "s4 0;".repeat(5)).leastLiars(0), 2);
        TurningWheel x = Check.wheel("w1,1,1;t4 0 0;s2 0;" + "s4 0;".repeat(4));
        x.make(0);
        check.due("four of five lie", x.leastLiars(0), 1);
        check.due("they are four", x.leastLiars(1), 4);
        x = Check.wheel("w1,1;t2 0 0;" + "s2 0;".repeat(5));
        x.make(0);
        check.due("the only one left, by whom all lie", x.leastLiars(0), 0);
        check.due("all lie", x.leastLiars(1), 5);
    }

    private static void ruleOutIs0To1() {
        TurningWheel x = Check.wheel(TEXT);
        check.due("what -1", x.ruleOut(2, 63, -1), O);
        check.due("what 0", x.ruleOut(2, 63, 0), 2);
        check.due("what 1", x.ruleOut(2, 63, 1), 30);
        check.due("what 2", x.ruleOut(2, 63, 2), O);
        for (int far : FAR) {
            check.due("what " + far, x.ruleOut(2, 63, far), O);
        }
        check.due("what 2, though none would do", x.ruleOut(4, 0, 2), O);
    }

    private static void ruleOutIsOfWaysThereAreWithout0() {
        TurningWheel x = Check.wheel(TEXT);
        check.due("way 0", x.ruleOut(1, 63, 0), U);
        check.due("way 0, too", x.ruleOut(3, 63, 0), U);
        check.due("all, way 0, too", x.ruleOut(15, 63, 0), U);
        check.due("all but way 0", x.ruleOut(14, 63, 0), 6);
        check.due("way 4", x.ruleOut(16, 63, 0), U);
        check.due("way 4, too", x.ruleOut(18, 63, 0), U);
        check.due("way 31", x.ruleOut(LEAST, 63, 0), U);
        check.due("way 31, too", x.ruleOut(LEAST + 2, 63, 0), U);
        check.due("all bits but 0", x.ruleOut(-2, 63, 0), U);
        check.due("all of eight but way 0", Check.wheel(FULLEST).ruleOut(254, 63, 0), 62);
        check.due("a ninth", Check.wheel(FULLEST).ruleOut(256, 63, 0), U);
    }

    private static void ruleOutSecretsAre0To63() {
        TurningWheel x = Check.wheel(TEXT);
        check.due("secrets -1", x.ruleOut(2, -1, 0), U);
        check.due("secrets 0", x.ruleOut(2, 0, 0), 1);
        check.due("secrets 63", x.ruleOut(2, 63, 0), 2);
        check.due("secrets 64", x.ruleOut(2, 64, 0), U);
        check.due("secrets 65", x.ruleOut(2, 65, 0), U);
        check.due("secrets, least", x.ruleOut(2, LEAST, 0), U);
        check.due("secrets, greatest", x.ruleOut(2, GREATEST, 0), U);
    }

    private static void ruleOutNothingAndAll() {
        TurningWheel x = Check.wheel(FULLEST);
        check.due("nothing", x.ruleOut(0, 0, 0), 0);
        check.due("nothing costs nothing", x.ruleOut(0, 0, 1), 0);
        check.due("all, five of no cost", x.ruleOut(254, 63, 1), 0);
        check.due("all, one secret less", x.ruleOut(254, 31, 0), -1);
        check.due("all, one secret less, how much", x.ruleOut(254, 31, 1), -1);
        x = Check.wheel("w1,1,1,1,1,1,1;t2 1 999;t4 2 999;t8 4 999;t16 8 999;t32 16 999;t64 32 999;");
        check.due("all six", x.ruleOut(126, 63, 0), 63);
        check.due("all six cost", x.ruleOut(126, 63, 1), 5994);
        x.seal(false);
        for (int t = 0; t < 6; t++) {
            x.make(t);
        }
        check.due("all six made", x.ruleOut(126, 63, 0), 63);
        check.due("all six made cost nothing", x.ruleOut(126, 63, 1), 0);
        check.due("none of the made is taken for nothing", x.ruleOut(0, 63, 0), 0);
        check.due("what they show counts though made", x.ruleOut(2, 0, 0), -1);
        x = Check.wheel("w1,1;t2 0 0;t2 0 0;");
        check.due("of like ones the least", x.ruleOut(2, 0, 0), 1);
        check.due("no tests", Check.wheel("w1,1;").ruleOut(2, 63, 0), -1);
    }

    private static void nextIsNoneWhereNoneRulesOut() {
        TurningWheel x = Check.wheel("w1,1,1;t2 0 0;t0 0 0;t2 0 0;t6 63 999;");
        check.due("the dear one leaves least", x.next(), 3);
        x.make(0);
        check.due("it still does", x.next(), 3);
        x.seal(false);
        x.make(3);
        check.due("none rules out any that is left", x.next(), -1);
        x = Check.wheel("w9,1,1;t2 0 5;t4 0 5;t4 0 4;t2 0 4;");
        check.due("the cheapest, of these the least", x.next(), 2);
        x = Check.wheel("w9,1,2;t2 0 0;t4 0 999;");
        check.due("by how likely, not by how many or how much", x.next(), 1);
        x = Check.wheel("w9,999,999,999,999,999,999,999;t254 0 999;t126 0 0;");
        check.due("all at once", x.next(), 0);
    }

    private static void offerIs0To9999() {
        TurningWheel x = Check.wheel("w1,1;t2 0 0;");
        x.make(0);
        check.due("v -1", x.offer(-1, 0), O);
        check.due("v 0", x.offer(0, 0), 0);
        check.due("v 9999", x.offer(9999, 0), 9999);
        check.due("v 10000", x.offer(10000, 0), O);
        check.due("c -1", x.offer(9999, -1), O);
        check.due("c 0", x.offer(9999, 0), 9999);
        check.due("c 9999", x.offer(9999, 9999), 0);
        check.due("c 10000", x.offer(9999, 10000), O);
        check.due("v least", x.offer(LEAST, 0), O);
        check.due("v greatest", x.offer(GREATEST, 0), O);
        check.due("c least", x.offer(0, LEAST), O);
        check.due("c greatest", x.offer(0, GREATEST), O);
    }

    private static void offerIs0AtLeast() {
        TurningWheel x = Check.wheel("w1,9;");
        check.due("one more than the costs", x.offer(1000, 99), 1);
        check.due("as much as the costs", x.offer(1000, 100), 0);
        check.due("one less than the costs", x.offer(1000, 101), 0);
        check.due("far less", x.offer(0, 9999), 0);
        check.due("cut to nothing", x.offer(9, 0), 0);
        check.due("just one", x.offer(10, 0), 1);
        check.due("cut at each", Check.wheel("w1,2;").offer(9999, 0), 3332);
    }

    private static void bothIs0To9999() {
        TurningWheel x = Check.wheel("w1,1;t2 0 0;");
        x.make(0);
        check.due("v -1", x.both(-1, 0, 0), O);
        check.due("v 0", x.both(0, 0, 0), 0);
        check.due("v 9999", x.both(9999, 0, 0), 4999);
        check.due("v 10000", x.both(10000, 0, 0), O);
        check.due("c -1", x.both(9999, -1, 0), O);
        check.due("c 9999", x.both(9999, 9999, 0), 0);
        check.due("c 10000", x.both(9999, 10000, 0), O);
        check.due("w -1", x.both(9999, 0, -1), O);
        check.due("w 0", x.both(2, 0, 0), 1);
        check.due("w 9999", x.both(9999, 0, 9999), 0);
        check.due("w 10000", x.both(9999, 0, 10000), O);
        for (int far : new int[] {LEAST, GREATEST}) {
            check.due("v " + far, x.both(far, 0, 0), O);
            check.due("c " + far, x.both(0, far, 0), O);
            check.due("w " + far, x.both(0, 0, far), O);
        }
    }

    private static void bothGainIfItIsMore() {
        TurningWheel x = Check.wheel("w1,1;t2 0 0;");
        x.make(0);
        check.due("two more", x.both(9999, 0, 9997), 1);
        check.due("one more, half is cut", x.both(9999, 0, 9998), 0);
        check.due("three more, half is cut", x.both(9999, 0, 9996), 1);
        check.due("alike", x.both(9998, 0, 9998), 0);
        check.due("less", x.both(0, 0, 9999), 0);
        check.due("less, by far more than costs", x.both(0, 9999, 9999), 0);
    }

    private static void worthIs0To9999() {
        TurningWheel x = Check.wheel(FULLEST);
        check.due("test -1", x.worth(-1, 0), U);
        check.due("test 5", x.worth(5, 0), 100000);
        check.due("test 6", x.worth(6, 0), U);
        check.due("v -1", x.worth(0, -1), O);
        check.due("v 0, the least worth", x.worth(0, 0), 99001);
        check.due("v 9999", x.worth(0, 9999), 100000 + 9999 - 1 - 999);
        check.due("v 10000", x.worth(0, 10000), O);
        check.due("v least", x.worth(0, LEAST), O);
        check.due("v greatest", x.worth(0, GREATEST), O);
        for (int far : FAR) {
            check.due("test " + far, x.worth(far, 0), U);
        }
        x = Check.wheel("w1,999,999,999,999,999,999,999;t254 0 0;");
        check.due("the most worth", x.worth(0, 9999), 109998);
        x.make(0);
        check.due("made, it is worth nothing", x.worth(0, 9999), 100000);
        x = Check.wheel("w1,1;t2 0 999;");
        x.make(0);
        check.due("made, it costs still", x.worth(0, 9999), 99001);
    }

    private static void secretIs60AtMost() {
        TurningWheel x = new TurningWheel();
        check.due("n -1", x.secret(-1, 50), O);
        check.due("n 0", x.secret(0, 50), 1000000);
        check.due("n 1", x.secret(1, 50), 500000);
        check.due("n 60", x.secret(60, 1), 547136);
        check.due("n 61", x.secret(61, 1), O);
        check.due("n least", x.secret(LEAST, 1), O);
        check.due("n greatest", x.secret(GREATEST, 1), O);
        check.due("n 19 by halves", x.secret(19, 50), 1);
        check.due("n 20 by halves", x.secret(20, 50), 0);
        check.due("n 60 by halves", x.secret(60, 50), 0);
    }

    private static void secretIsByAHundredAtMost() {
        TurningWheel x = new TurningWheel();
        check.due("q -1", x.secret(1, -1), O);
        check.due("q 0", x.secret(60, 0), 1000000);
        check.due("q 1", x.secret(1, 1), 990000);
        check.due("q 99", x.secret(1, 99), 10000);
        check.due("q 99, 3", x.secret(3, 99), 1);
        check.due("q 99, 4", x.secret(4, 99), 0);
        check.due("q 100", x.secret(1, 100), 0);
        check.due("q 100, none", x.secret(0, 100), 1000000);
        check.due("q 101", x.secret(1, 101), O);
        check.due("q 101, none", x.secret(0, 101), O);
        check.due("q least", x.secret(1, LEAST), O);
        check.due("q greatest", x.secret(1, GREATEST), O);
    }

    private static void hearIs0To59() {
        TurningWheel x = Check.wheel("w1,1;p1 30;");
        check.due("n -1", x.hear(-1, true), O);
        check.due("n 60", x.hear(60, true), O);
        check.due("n least", x.hear(LEAST, true), O);
        check.due("n greatest", x.hear(GREATEST, true), O);
        check.due("nothing is heard", x.paid(), (1 << 30) - 1);
        check.due("n 0", x.hear(0, false), 1);
        check.due("not today", x.paid(), (1 << 30) - 2);
        check.due("n 59", x.hear(59, true), 2);
        check.due("59 days ago", x.paid(), 1 << 29);
    }

    private static void heardAre6AtMost() {
        TurningWheel x = Check.wheel(TEXT);
        for (int i = 1; i <= 6; i++) {
            check.due("hear, number " + i, x.hear(i, false), i);
        }
        check.due("only a full week is left", x.paid(), 1);
        check.due("a seventh", x.hear(0, false), F);
        check.due("it is not heard", x.paid(), 1);
        check.due("how many", x.told(15), 6);
        check.due("outside, full", x.hear(-1, false), O);
        check.due("torn", x.tear(), 6);
        check.due("the first again", x.hear(0, true), 1);
    }

    private static void paidIsTo29() {
        for (int d = 1; d <= 30; d++) {
            TurningWheel x = Check.wheel("w1,1;p1 " + d + ";");
            check.due("all of " + d, x.paid(), (1 << d) - 1);
            x.hear(d - 1, true);
            check.due("the last of " + d, x.paid(), 1 << d - 1);
            x.tear();
            x.hear(d, true);
            check.due("the first of " + d, x.paid(), 1);
            x.hear(59, 59 % d != 0);
            check.due("none of " + d, x.paid(), 0);
        }
    }

    private static void askIsNoneWhereNoneParts() {
        TurningWheel x = Check.wheel("w1,1;p1 2;");
        check.due("two are parted", x.ask(), 0);
        x.hear(1, false);
        check.due("one is not", x.ask(), -1);
        x.hear(0, false);
        check.due("none is left", x.paid(), 0);
        check.due("none is not", x.ask(), -1);
        check.due("each day", Check.wheel("w1,1;").ask(), -1);
        x = Check.wheel("w1,1;p1 8;");
        for (int n = 0; n < 6; n++) {
            check.due("the least that parts", x.ask(), n);
            x.hear(n, false);
        }
        check.due("the last two", x.paid(), 192);
        check.due("the last two are parted", x.ask(), 6);
    }

    private static void bookHas15Entries() {
        TurningWheel x = Check.wheel(TEXT);
        for (int i = 1; i <= 14; i++) {
            check.due("entry " + i, x.write(15), i);
        }
        check.due("all are right", x.judge(), -1);
        check.due("the fifteenth", x.write(1), 15);
        check.due("the fifteenth is wrong", x.judge(), 14);
        check.due("a sixteenth", x.write(1), F);
        check.due("a sixteenth of ways that there are not", x.write(16), U);
        check.due("entries", x.told(16), 15);
        x.hear(1, true);
        check.due("torn", x.tear(), 16);
        check.due("none is wrong", x.judge(), -1);
        check.due("nothing to tear", x.tear(), 0);
        check.due("the first again", x.write(0), 1);
    }

    private static void bookIsOfWaysThereAre() {
        TurningWheel x = Check.wheel(TEXT);
        check.due("way 4", x.write(16), U);
        check.due("way 4, too", x.write(31), U);
        check.due("all bits", x.write(-1), U);
        check.due("way 31", x.write(LEAST), U);
        check.due("all but 31", x.write(GREATEST), U);
        check.due("none", x.write(0), 1);
        check.due("all", x.write(15), 2);
        check.due("without way 0", x.write(14), 3);
        check.due("all of eight", Check.wheel(FULLEST).write(255), 1);
        check.due("a ninth", Check.wheel(FULLEST).write(256), U);
    }

    private static void judgeIsTheFirst() {
        TurningWheel x = Check.wheel(TEXT);
        check.due("an empty book", x.judge(), -1);
        x.write(15);
        x.write(13);
        x.write(15);
        x.write(0);
        check.due("the second", x.judge(), 1);
        x.make(0);
        check.due("the first now", x.judge(), 0);
        x.undo();
        check.due("the second again", x.judge(), 1);
    }

    private static void seedIs0ToTheMost() {
        TurningWheel x = new TurningWheel();
        check.due("-1", x.seed(-1), O);
        check.due("least", x.seed(LEAST), O);
        check.due("0, it was 0", x.seed(0), 0);
        check.due("greatest, it was 0", x.seed(GREATEST), 0);
        check.due("it was the greatest", x.seed(1), GREATEST);
        check.due("it was 1", x.seed(0), 1);
    }

    /** What THE SEED is behind one draw alone. */
    private static long drawn(int seed) {
        TurningWheel x = Check.wheel("w1,1;");
        x.seed(seed);
        x.drift(1);
        return x.seed(0);
    }

    private static void seedIsLeftOverByTwoToThe31() {
        java.math.BigInteger factor = java.math.BigInteger.valueOf(1103515245);
        java.math.BigInteger step = java.math.BigInteger.valueOf(12345);
        java.math.BigInteger bound = java.math.BigInteger.ONE.shiftLeft(31);
        for (int seed : new int[] {0, 1, 2, 3, 65535, 65536, 1 << 30, GREATEST - 1, GREATEST}) {
            long due = java.math.BigInteger.valueOf(seed).multiply(factor).add(step).mod(bound).longValue();
            check.due("a draw from " + seed, drawn(seed), due);
        }
        check.due("a draw from 0", drawn(0), 12345);
        check.due("a draw from 1", drawn(1), 1103527590);
        check.due("a draw from the greatest", drawn(GREATEST), 1043980748);
        // A draw is the seed / 65536: on 2 the seal is changed, on 1 and 3 it is not.
        TurningWheel x = Check.wheel("w1,1;");
        x.seed(seedAheadOf(131072));
        x.drift(1);
        check.due("a draw of 8 that is 2", x.told(9), 0);
        x.seed(seedAheadOf(131071));
        x.drift(1);
        check.due("a draw of 8 that is 1", x.told(9), 0);
        x.seed(seedAheadOf(196607));
        x.drift(1);
        check.due("a draw of 8 that is 2 again", x.told(9), 1);
        x.seed(seedAheadOf(196608));
        x.drift(1);
        check.due("a draw of 8 that is 3", x.told(9), 1);
    }

    /** The seed that one draw turns into the one told. */
    private static int seedAheadOf(int then) {
        java.math.BigInteger bound = java.math.BigInteger.ONE.shiftLeft(31);
        return java.math.BigInteger.valueOf(then - 12345L)
            .multiply(java.math.BigInteger.valueOf(1103515245).modInverse(bound)).mod(bound).intValue();
    }

    private static void imagesAre0And1() {
        TurningWheel x = Check.wheel(TEXT);
        check.due("goBack(0), not kept", x.goBack(0), N);
        check.due("goBack(1), not kept", x.goBack(1), N);
        check.due("keep(-1)", x.keep(-1), U);
        check.due("keep(2)", x.keep(2), U);
        check.due("keep(least)", x.keep(LEAST), U);
        check.due("keep(greatest)", x.keep(GREATEST), U);
        check.due("keep(1)", x.keep(1), 1);
        check.due("goBack(0), not kept yet", x.goBack(0), N);
        check.due("goBack(1), kept", x.goBack(1), 1);
        x.day(5);
        check.due("keep(0)", x.keep(0), 1);
        check.due("goBack(-1)", x.goBack(-1), U);
        check.due("goBack(2)", x.goBack(2), U);
        check.due("goBack(least)", x.goBack(LEAST), U);
        check.due("goBack(greatest)", x.goBack(GREATEST), U);
        x.goBack(1);
        check.due("image 1", x.told(6), 0);
        x.goBack(0);
        check.due("image 0", x.told(6), 5);
        x.day(1);
        x.keep(0);
        x.day(1);
        x.goBack(0);
        check.due("image 0, kept again", x.told(6), 6);
        Check.feed(x, TEXT);
        x.castle();
        check.due("goBack(0), gone", x.goBack(0), N);
        check.due("goBack(1), gone", x.goBack(1), N);
    }

    private static void imagesKeepNothingToUndo() {
        TurningWheel x = Check.wheel(TEXT);
        for (int i = 0; i < 25; i++) {
            x.day(1);
        }
        x.keep(0);
        check.due("kept, nothing can be undone", x.told(17), 0);
        check.due("kept, undo()", x.undo(), N);
        for (int i = 0; i < 25; i++) {
            x.day(1);
        }
        x.goBack(0);
        check.due("gone back, nothing can be undone", x.told(17), 0);
        check.due("gone back, undo()", x.undo(), N);
        x.day(1);
        check.due("a deed then", x.undo(), 0);
        check.due("days", x.told(6), 25);
    }

    /** All of section 2 and THE SEED: of what was done behind keep() nothing is left. */
    private static void goneBackIsAsKept() {
        for (int i = 0; i < 2; i++) {
            TurningWheel x = kept(i);
            x.hire(0, true);
            x.hire(1, false);
            x.buy(2, 4, 70);
            x.seal(false);
            x.make(1);
            x.day(20);
            x.seed(12);
            x.drift(30);
            x.smash();
            x.day(5);
            x.goBack(i);
            check.alike("image " + i, x, kept(i));
        }
        TurningWheel x = kept(0);
        x.day(4);
        x.keep(1);
        x.goBack(0);
        x.goBack(1);
        check.due("image 1 is another", x.told(6), 7);
        x.smash();
        x.keep(0);
        x.goBack(1);
        check.due("it turns in image 1", x.told(8), 1);
        x.goBack(0);
        check.due("it does not in image 0", x.told(8), 0);
        x.hear(1, true);
        x.write(2);
        x.feed('w');
        x.goBack(1);
        check.due("heard stays", x.told(15), 2);
        check.due("the book stays", x.told(16), 2);
        check.due("the text stays", x.told(3), 1);
    }

    private static TurningWheel kept(int i) {
        TurningWheel x = Check.wheel(TEXT);
        x.hire(1, true);
        x.day(3);
        x.make(0);
        x.buy(2, 5, 6);
        x.hear(1, true);
        x.write(13);
        x.seed(99);
        x.keep(i);
        return x;
    }

    /** As many ways, tests and servants as there may be: each call goes to the last of them and no further. */
    private static void theFullestCastle() {
        TurningWheel x = Check.wheel(FULLEST);
        int[] first = {8, 6, 5, 0, 99, 30, 0, 0, 1, 1, 0, 255, 0, 0, 0, 0, 0, 0};
        for (int what = 0; what <= 17; what++) {
            check.due("at first, told(" + what + ")", x.told(what), first[what]);
        }
        check.due("next", x.next(), 0);
        check.due("worth of the last", x.worth(5, 9999), 100000 + 2 - 1);
        x.seal(false);
        for (int t = 5; t > 0; t--) {
            x.make(t);
        }
        check.due("next, five are made", x.next(), -1);
        check.due("the sixth", x.make(0), 1);
        for (int s = 0; s < 5; s++) {
            x.hire(s, true);
            x.buy(s, 128, 999);
        }
        x.day(60);
        int[] then = {8, 6, 5, 0, 99, 30, 60, 60, 1, 0, 63, 1, 63, 31, 999 + 5 * (999 + 198), 0, 0, 18};
        for (int what = 0; what <= 17; what++) {
            check.due("then, told(" + what + ")", x.told(what), then[what]);
        }
        check.due("next, all are made", x.next(), -1);
        check.due("rule out all", x.ruleOut(254, 63, 0), 1);
        check.due("all lie", x.liars(0), 31);
        check.due("none would lie", x.liars(7), 0);
        check.due("the way that is left", x.leastLiars(0), 0);
        check.due("drift", x.drift(60), 1);
        check.due("drift, days", x.told(6), 120);
        check.due("undone", x.undo(), 18);
        check.due("keep", x.keep(1), 1);
        check.due("goBack", x.goBack(1), 1);
        check.due("paid by the month", x.servant(4, 2), 999 + 198);
    }

    private static void noCastle() {
        TurningWheel x = new TurningWheel();
        check.due("leastLiars(0)", x.leastLiars(0), N);
        check.due("leastLiars(1)", x.leastLiars(1), N);
        check.due("offer(0, 0)", x.offer(0, 0), N);
        check.due("both(0, 0, 0)", x.both(0, 0, 0), N);
        check.due("hear(0, true)", x.hear(0, true), N);
        check.due("paid()", x.paid(), N);
        check.due("ask()", x.ask(), N);
        check.due("belief(0)", x.belief(0), U);
        check.due("liars(0)", x.liars(0), U);
        check.due("worth(0, 0)", x.worth(0, 0), U);
        check.due("likely(0)", x.likely(0), U);
        check.due("test(0, 0)", x.test(0, 0), U);
        check.due("servant(0, 0)", x.servant(0, 0), U);
        check.due("ruleOut(2, 0, 0)", x.ruleOut(2, 0, 0), U);
        check.due("ruleOut(0, 0, 0)", x.ruleOut(0, 0, 0), 0);
        check.due("ruleOut(0, 63, 1)", x.ruleOut(0, 63, 1), 0);
        check.due("ruleOut(0, 64, 0)", x.ruleOut(0, 64, 0), U);
        check.due("next()", x.next(), -1);
        check.due("judge()", x.judge(), -1);
        check.due("tear()", x.tear(), 0);
        check.due("write(1)", x.write(1), U);
        for (int i = 1; i <= 15; i++) {
            check.due("write(0)", x.write(0), i);
        }
        check.due("write(0), full", x.write(0), F);
        check.due("judge() of none", x.judge(), -1);
        check.due("keep(1)", x.keep(1), 1);
        check.due("goBack(1)", x.goBack(1), 1);
        check.due("goBack(0)", x.goBack(0), N);
    }
}
