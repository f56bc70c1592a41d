/** Promises 26 to 31: what is heard, when it was paid, what to ask, the book. */
public final class HeardTest {
    private static final int U = TurningWheel.UNKNOWN, O = TurningWheel.OUTSIDE, N = TurningWheel.NOT, F = TurningWheel.FULL;
    private static final String TEXT = "w10,30,20,40;t2 0 50;t6 1 30;s3 20;p2 7;";
    private static final Check check = new Check("HeardTest");

    public static void main(String[] args) {
        heard();
        paid();
        asked();
        eachDay();
        book();
        torn();
        check.end();
    }

    private static void heard() {
        TurningWheel x = Check.wheel(TEXT);
        check.due("hear(-1)", x.hear(-1, true), O);
        check.due("hear(60)", x.hear(60, true), O);
        for (int i = 1; i <= 6; i++) {
            check.due("hear " + i, x.hear(59, i % 2 == 0), i);
        }
        check.due("hear a seventh", x.hear(0, true), F);
        check.due("hear outside", x.hear(60, true), O);
        check.due("how many", x.told(15), 6);
        check.due("both cannot be", x.paid(), 0);
        check.due("nothing to ask", x.ask(), -1);
        TurningWheel none = new TurningWheel();
        check.due("no castle", none.hear(0, true), N);
        check.due("no castle, outside", none.hear(60, true), O);
        check.due("no castle, paid", none.paid(), N);
        check.due("no castle, ask", none.ask(), N);
    }

    private static void paid() {
        TurningWheel x = Check.wheel(TEXT);
        check.due("all", x.paid(), 127);
        x.hear(59, true);
        check.due("59 is 3 and 8 times 7", x.paid(), 8);
        x.hear(3, true);
        check.due("3, too", x.paid(), 8);
        x.hear(4, false);
        check.due("not 4", x.paid(), 8);
        x.hear(10, false);
        check.due("not 10 but 59", x.paid(), 0);
        x.tear();
        x.hear(0, false);
        x.hear(8, false);
        check.due("not 0, 1", x.paid(), 124);
        check.due("30 days", Check.wheel("w1,1;p1 30;").paid(), (1 << 30) - 1);
    }

    private static void asked() {
        TurningWheel x = Check.wheel(TEXT);
        check.due("first", x.ask(), 0);
        x.hear(7, false);
        x.hear(1, false);
        check.due("third", x.ask(), 2);
        x.hear(4, false);
        x.hear(3, false);
        x.hear(2, false);
        check.due("two are left", x.paid(), 96);
        check.due("part the two", x.ask(), 5);
        x.hear(6, false);
        check.due("one is left", x.paid(), 32);
        check.due("nothing to ask", x.ask(), -1);
    }

    private static void eachDay() {
        TurningWheel x = Check.wheel("w1,1;");
        check.due("each day", x.paid(), 1);
        check.due("each day, nothing to ask", x.ask(), -1);
        x.hear(59, true);
        check.due("it is so", x.paid(), 1);
        x.hear(0, false);
        check.due("it cannot be", x.paid(), 0);
    }

    private static void book() {
        TurningWheel x = Check.wheel(TEXT);
        check.due("empty", x.judge(), -1);
        check.due("write(16)", x.write(16), U);
        check.due("write(-1)", x.write(-1), U);
        check.due("write", x.write(15), 1);
        check.due("right", x.judge(), -1);
        check.due("write more", x.write(13), 2);
        check.due("wrong", x.judge(), 1);
        x.make(0);
        check.due("wrong now", x.judge(), 0);
        x.undo();
        check.due("wrong again", x.judge(), 1);
        for (int i = 3; i <= 15; i++) {
            check.due("write " + i, x.write(0), i);
        }
        check.due("write a sixteenth", x.write(0), F);
        check.due("write unknown", x.write(16), U);
        check.due("entries", x.told(16), 15);
    }

    private static void torn() {
        TurningWheel x = Check.wheel(TEXT);
        x.write(1);
        x.write(2);
        x.hear(3, true);
        check.due("tear", x.tear(), 3);
        check.due("heard", x.told(15), 0);
        check.due("entries", x.told(16), 0);
        check.due("judge", x.judge(), -1);
        check.due("paid", x.paid(), 127);
        check.due("tear nothing", x.tear(), 0);
        x.write(15);
        check.due("judge then", x.judge(), -1);
    }
}
