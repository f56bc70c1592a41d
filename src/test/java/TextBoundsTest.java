/** Section 1 and promises 1 to 4 at their edges: the last input that is still good, the first that is not. */
public final class TextBoundsTest {
    private static final int O = TurningWheel.OUTSIDE, F = TurningWheel.FULL;
    private static final int FINE = -1;
    private static final String EIGHT = "w1,1,1,1,1,1,1,1;";
    private static final Check check = new Check("TextBoundsTest");

    public static void main(String[] args) {
        letterIsAByte();
        textHas240Letters();
        likelyIs1To999();
        waysAre2To8();
        rulesAreASetTo255();
        rulesAreOfWaysThereAre();
        rulesAreWithoutWay0();
        showsAreASetTo63();
        costsAre0To999();
        testsAre6AtMost();
        saysAreASetFrom1To255();
        saysAreOfWaysThereAre();
        pricesAre0To999();
        servantsAre5AtMost();
        payIs1To99();
        payIsEach1To30Days();
        payIsToldOnce();
        payUntoldIs1And1();
        waysAreFirstAndOnce();
        numbersHaveOneToThreeFigures();
        blanksStandAnywhereButWithinNumbers();
        numbersSideBySideNeedABlank();
        aWordIsOneLetter();
        otherWordsCannotStandFirst();
        oneWayAloneIsAFaultAtWhatStandsThere();
        theEndIsAtTheTextsLength();
        theFirstFaultCounts();
        ofFaultsAtOneLetterTheLeast();
        anEmptyTextHasNoFault();
        faultIsOfTheLatestCastle();
        check.end();
    }

    /** The text is fed to a new object; a place of FINE is due for a text without a fault. */
    private static TurningWheel read(String text, int answer, int place) {
        TurningWheel x = new TurningWheel();
        Check.feed(x, text);
        check.due("castle of '" + text + "'", x.castle(), answer);
        check.due("fault of '" + text + "'", x.fault(), place);
        return x;
    }

    /** A number between two parts of a text that is fine but for that number. */
    private static void number(String head, int number, String tail, boolean fine) {
        int ways = head.startsWith(EIGHT) ? 8 : 2;
        read(head + number + tail, fine ? ways : -12, fine ? FINE : head.length());
    }

    private static void letterIsAByte() {
        TurningWheel x = new TurningWheel();
        check.due("feed(-1)", x.feed(-1), O);
        check.due("feed(0)", x.feed(0), 1);
        check.due("feed(255)", x.feed(255), 2);
        check.due("feed(256)", x.feed(256), O);
        check.due("feed(greatest)", x.feed(Integer.MAX_VALUE), O);
        check.due("feed(least)", x.feed(Integer.MIN_VALUE), O);
        check.due("letters", x.told(3), 2);
    }

    private static void textHas240Letters() {
        TurningWheel x = new TurningWheel();
        Check.feed(x, "w1,1;" + " ".repeat(234));
        check.due("letters", x.told(3), 239);
        check.due("the 240th letter", x.feed(' '), 240);
        check.due("the 241st letter", x.feed('x'), F);
        check.due("letters then", x.told(3), 240);
        check.due("the 241st is not read", x.castle(), 2);
        check.due("no letters then", x.told(3), 0);
        check.due("the first letter again", x.feed('x'), 1);
        read(" ".repeat(235) + "w1,1;", 2, FINE);
        read(" ".repeat(235) + "w1,1x", -11, 239);
    }

    private static void likelyIs1To999() {
        number("w", 0, ",1;", false);
        number("w", 1, ",1;", true);
        number("w", 999, ",1;", true);
        number("w", 1000, ",1;", false);
        number("w1,", 0, ";", false);
        number("w1,", 999, ";", true);
        number("w1,", 1000, ";", false);
        number("w1,1,1,1,1,1,1,", 0, ";", false);
        number("w1,1,1,1,1,1,1,", 1000, ";", false);
        check.due("O of 999", read("w1,999;", 2, FINE).likely(1), 999);
        check.due("O of 1", read("w1,999;", 2, FINE).likely(0), 1);
    }

    private static void waysAre2To8() {
        StringBuilder ways = new StringBuilder("w1");
        read(ways + ";", -11, 2);
        for (int n = 2; n <= 8; n++) {
            ways.append(",1");
            read(ways + ";", n, FINE);
        }
        read(ways + ",1;", -11, 16);
        read(ways + " , 1;", -11, 17);
        read(ways + ",", -11, 16);
        read(ways + ",x", -11, 16);
        read(ways + ",1000;", -11, 16);
        check.due("the eighth way", read(ways + ";", 8, FINE).likely(7), 1);
        check.due("no ninth way", read(ways + ";", 8, FINE).likely(8), TurningWheel.UNKNOWN);
    }

    private static void rulesAreASetTo255() {
        number(EIGHT + "t", 0, " 0 0;", true);
        number(EIGHT + "t", 254, " 0 0;", true);
        number(EIGHT + "t", 256, " 0 0;", false);
        number(EIGHT + "t", 999, " 0 0;", false);
        number(EIGHT + "t", 1000, " 0 0;", false);
        check.due("R of 254", read(EIGHT + "t254 0 0;", 8, FINE).test(0, 0), 254);
    }

    private static void rulesAreOfWaysThereAre() {
        StringBuilder ways = new StringBuilder("w1,1");
        for (int n = 2; n <= 7; n++) {
            int place = ways.length() + 2;
            read(ways + ";t" + ((1 << n) - 2) + " 0 0;", n, FINE);
            read(ways + ";t" + (1 << n) + " 0 0;", -12, place);
            read(ways + ";t 254 0 0;", -12, place + 1);
            ways.append(",1");
        }
    }

    private static void rulesAreWithoutWay0() {
        number("w1,1;t", 0, " 0 0;", true);
        number("w1,1;t", 1, " 0 0;", false);
        number("w1,1;t", 2, " 0 0;", true);
        number("w1,1;t", 3, " 0 0;", false);
        number(EIGHT + "t", 253, " 0 0;", false);
        number(EIGHT + "t", 255, " 0 0;", false);
        read("w1,1;t 003 0 0;", -12, 7);
    }

    private static void showsAreASetTo63() {
        number("w1,1;t2 ", 0, " 0;", true);
        number("w1,1;t2 ", 63, " 0;", true);
        number("w1,1;t2 ", 64, " 0;", false);
        number("w1,1;t2 ", 1000, " 0;", false);
        check.due("S of 63", read("w1,1;t2 63 0;", 2, FINE).test(0, 1), 63);
    }

    private static void costsAre0To999() {
        number("w1,1;t2 0 ", 0, ";", true);
        number("w1,1;t2 0 ", 999, ";", true);
        number("w1,1;t2 0 ", 1000, ";", false);
        check.due("C of 999", read("w1,1;t2 0 999;", 2, FINE).test(0, 2), 999);
    }

    private static void testsAre6AtMost() {
        String six = "w1,1;" + "t2 0 0;".repeat(5) + "t0 9 8;";
        TurningWheel x = read(six, 2, FINE);
        check.due("tests", x.told(1), 6);
        check.due("S of the sixth", x.test(5, 1), 9);
        check.due("no seventh", x.test(6, 1), TurningWheel.UNKNOWN);
        read(six + "t2 0 0;", -13, 47);
        read(six + "  t", -13, 49);
        read(six + "s1 0;t", -13, 52);
        read("w1,1;" + "t2 0 0;".repeat(6) + "t1000", -13, 47);
    }

    private static void saysAreASetFrom1To255() {
        number(EIGHT + "s", 0, " 0;", false);
        number(EIGHT + "s", 1, " 0;", true);
        number(EIGHT + "s", 255, " 0;", true);
        number(EIGHT + "s", 256, " 0;", false);
        number(EIGHT + "s", 1000, " 0;", false);
        check.due("A of 255", read(EIGHT + "s255 0;", 8, FINE).servant(0, 0), 255);
    }

    private static void saysAreOfWaysThereAre() {
        StringBuilder ways = new StringBuilder("w1,1");
        for (int n = 2; n <= 7; n++) {
            int place = ways.length() + 2;
            read(ways + ";s" + ((1 << n) - 1) + " 0;", n, FINE);
            read(ways + ";s" + (1 << n) + " 0;", -12, place);
            read(ways + ";s 255 0;", -12, place + 1);
            ways.append(",1");
        }
    }

    private static void pricesAre0To999() {
        number("w1,1;s1 ", 0, ";", true);
        number("w1,1;s1 ", 999, ";", true);
        number("w1,1;s1 ", 1000, ";", false);
        check.due("P of 999", read("w1,1;s1 999;", 2, FINE).servant(0, 1), 999);
    }

    private static void servantsAre5AtMost() {
        String five = "w1,1;" + "s1 0;".repeat(4) + "s2 7;";
        TurningWheel x = read(five, 2, FINE);
        check.due("servants", x.told(2), 5);
        check.due("P of the fifth", x.servant(4, 1), 7);
        check.due("no sixth", x.servant(5, 1), TurningWheel.UNKNOWN);
        read(five + "s1 0;", -13, 30);
        read(five + " s", -13, 31);
        read(five + "t2 0 0;s", -13, 37);
        read(five + "s0 1000;", -13, 30);
    }

    private static void payIs1To99() {
        number("w1,1;p", 0, " 1;", false);
        number("w1,1;p", 1, " 1;", true);
        number("w1,1;p", 99, " 1;", true);
        number("w1,1;p", 100, " 1;", false);
        number("w1,1;p", 1000, " 1;", false);
        check.due("G of 99", read("w1,1;p99 1;", 2, FINE).told(4), 99);
    }

    private static void payIsEach1To30Days() {
        number("w1,1;p1 ", 0, ";", false);
        number("w1,1;p1 ", 1, ";", true);
        number("w1,1;p1 ", 30, ";", true);
        number("w1,1;p1 ", 31, ";", false);
        number("w1,1;p1 ", 1000, ";", false);
        check.due("D of 30", read("w1,1;p1 30;", 2, FINE).told(5), 30);
    }

    private static void payIsToldOnce() {
        read("w1,1;p1 1;", 2, FINE);
        read("w1,1;p1 1;p1 1;", -13, 10);
        read("w1,1;p1 1; p", -13, 11);
        read("w1,1;p1 1;s1 0;p", -13, 15);
    }

    private static void payUntoldIs1And1() {
        TurningWheel x = read("w1,1;", 2, FINE);
        check.due("G untold", x.told(4), 1);
        check.due("D untold", x.told(5), 1);
        x = Check.wheel("w1,1;p9 9;");
        Check.feed(x, "w1,1;");
        x.castle();
        check.due("G untold, though told ahead", x.told(4), 1);
        check.due("D untold, though told ahead", x.told(5), 1);
    }

    private static void waysAreFirstAndOnce() {
        read("w1,1;w1,1;", -13, 5);
        read("w1,1;w", -13, 5);
        read("w1,1;s1 0;t2 0 0;p1 1;w", -13, 22);
        read("s1 0;w1,1;", -11, 0);
        read("t2 0 0;w1,1;", -11, 0);
        read("p1 1;w1,1;", -11, 0);
    }

    private static void numbersHaveOneToThreeFigures() {
        check.due("one figure", read("w9,1;", 2, FINE).likely(0), 9);
        check.due("two figures", read("w09,1;", 2, FINE).likely(0), 9);
        check.due("three figures", read("w009,1;", 2, FINE).likely(0), 9);
        read("w0009,1;", -12, 1);
        read("w,1;", -11, 1);
        read("w1,1;t000 000 000;", 2, FINE);
        read("w1,1;t0000 0 0;", -12, 6);
        read("w1,1;t0 0000 0;", -12, 8);
        read("w1,1;t0 0 0000;", -12, 10);
        read("w1,1;s0001 0;", -12, 6);
        read("w1,1;s1 0000;", -12, 8);
        read("w1,1;p0001 1;", -12, 6);
        read("w1,1;p1 0001;", -12, 8);
        // Numbers that would be in bounds again, were they counted in 32 or 64 bits.
        read("w4294967297,1;", -12, 1);
        read("w18446744073709551617,1;", -12, 1);
        read("w" + "0".repeat(238) + "1", -12, 1);
        // '/' and ':' stand on both sides of the figures.
        read("w/,1;", -11, 1);
        read("w:,1;", -11, 1);
        read("w0,1;", -12, 1);
        read("w9,1;", 2, FINE);
    }

    private static void blanksStandAnywhereButWithinNumbers() {
        read("w1,1;t2 0 0;s1 0;p1 1;", 2, FINE);
        read("   w   1   ,   1   ;   t   2   0   0   ;   s   1   0   ;   p   1   1   ;   ", 2, FINE);
        read("w1 0,1;", -11, 3);
        read("w10 ,1;", 2, FINE);
        read("w1,1;p1 2 3;", -11, 10);
        // Only 32 is a blank.
        read("w1,1;" + (char) 31, -11, 5);
        read("w1,1;" + (char) 33, -11, 5);
        read("w1,1;" + (char) 9, -11, 5);
        read("w1,1;" + (char) 10, -11, 5);
        read("w1,1;" + (char) 0, -11, 5);
        read("w1,1;" + (char) 160, -11, 5);
        read("w1,1;" + (char) 255, -11, 5);
    }

    private static void numbersSideBySideNeedABlank() {
        read("w1,1;s1 1;", 2, FINE);
        read("w1,1;s11;", -12, 6);
        read("w1,1;s1;", -11, 7);
        read("w1,1,1,1;s11;", -11, 12);
        read("w1,1;t2 0 0;", 2, FINE);
        read("w1,1;t2 00;", -11, 10);
    }

    private static void aWordIsOneLetter() {
        read("ww1,1;", -11, 1);
        read("w1,1;tt2 0 0;", -11, 6);
        read("w1,1;ss1 0;", -11, 6);
        read("w1,1;pp1 1;", -11, 6);
        read("w1,,1;", -11, 3);
        read("w1,1;;", -11, 5);
        read("w1,1;T2 0 0;", -11, 5);
        read("w1,1;s1,0;", -11, 7);
        read("w1,1;s1 0,", -11, 9);
        read("w1,1;t2 0 0,", -11, 11);
        read("w1,1;p1 1,", -11, 9);
    }

    private static void otherWordsCannotStandFirst() {
        for (int letter = 0; letter < 256; letter++) {
            if (letter != 'w' && letter != ' ') {
                read("" + (char) letter, -11, 0);
                read("  " + (char) letter, -11, 2);
            }
            if ("wtsp ".indexOf(letter) < 0) {
                read("w1,1;" + (char) letter, -11, 5);
            }
        }
        read("w", -11, 1);
    }

    private static void oneWayAloneIsAFaultAtWhatStandsThere() {
        read("w1;", -11, 2);
        read("w1  ;", -11, 4);
        read("w1", -11, 2);
        read("w1 1;", -11, 3);
        read("w1t", -11, 2);
        read("w1,1;", 2, FINE);
    }

    private static void theEndIsAtTheTextsLength() {
        String text = "w10,1;t2 0 0;s1 0;p1 1;";
        for (int length = 1; length <= text.length(); length++) {
            boolean whole = text.charAt(length - 1) == ';';
            read(text.substring(0, length), whole ? 2 : -11, whole ? FINE : length);
            read(text.substring(0, length) + "   ", whole ? 2 : -11, whole ? FINE : length + 3);
        }
        read(" ".repeat(239) + "w", -11, 240);
        read("w1,1" + " ".repeat(236), -11, 240);
    }

    private static void theFirstFaultCounts() {
        read("w0,1000;w", -12, 1);
        read("w1,0 x", -12, 3);
        read("w1,x0", -11, 3);
        read("w1,1;wx", -13, 5);
        read("w1,1;xw", -11, 5);
        read("w1,1;t1 64 1000;", -12, 6);
        read("w1,1;t2 64 1000;", -12, 8);
        read("w1,1;s0 1000;", -12, 6);
        read("w1,1;p0 31;", -12, 6);
        // A number's fault stands at its first figure, ahead of what cannot stand behind it.
        read("w1,1;t1x", -12, 6);
        read("w1,1;s4x", -12, 6);
        read("w1000", -12, 1);
    }

    private static void ofFaultsAtOneLetterTheLeast() {
        read("1000", -11, 0);
        read("w1,1 1000;", -11, 5);
        read("w1,1;1000", -11, 5);
        read("w1,1;t2 0 0 1000;", -11, 12);
        read("w1,1;s1 0 1000;", -11, 10);
        read("w1,1;p1 1 1000;", -11, 10);
        read("w1,1;sw", -11, 6);
        read("w1,1;p1 1;sp", -11, 11);
        read("w1,1;" + "t2 0 0;".repeat(6) + "st", -11, 48);
        read("w1,1;" + "s1 0;".repeat(5) + "ts", -11, 31);
        read("w1,w", -11, 3);
    }

    private static void anEmptyTextHasNoFault() {
        read("", 0, FINE);
        read(" ", 0, FINE);
        read(" ".repeat(240), 0, FINE);
        read(" x", -11, 1);
        TurningWheel x = Check.wheel("w1,1;p9 9;");
        check.due("an empty text", x.castle(), 0);
        check.due("no ways", x.told(0), 0);
        check.due("no castle", x.day(1), TurningWheel.NOT);
        x = Check.wheel("w1,1;");
        Check.feed(x, "  ");
        check.due("a text of blanks", x.castle(), 0);
        check.due("no castle, too", x.smash(), TurningWheel.NOT);
    }

    private static void faultIsOfTheLatestCastle() {
        TurningWheel x = new TurningWheel();
        check.due("ahead of all", x.fault(), -1);
        Check.feed(x, "w0");
        check.due("ahead of castle()", x.fault(), -1);
        x.castle();
        check.due("behind it", x.fault(), 1);
        Check.feed(x, "w1,1;w");
        check.due("ahead of the next", x.fault(), 1);
        x.castle();
        check.due("behind the next", x.fault(), 5);
        x.castle();
        check.due("behind an empty one", x.fault(), -1);
        Check.feed(x, "x");
        x.castle();
        check.due("at the first letter", x.fault(), 0);
        Check.feed(x, "w1,1;");
        x.castle();
        check.due("behind a good one", x.fault(), -1);
    }
}
