import java.util.ArrayList;
import java.util.List;

/** All that can be seen of an object; it is used up by that (undone, torn, gone back). */
final class Trace {
    private final TurningWheel x;
    private final List<String> lines = new ArrayList<>();

    private Trace(TurningWheel wheel) {
        x = wheel;
    }

    static List<String> of(TurningWheel wheel) {
        Trace trace = new Trace(wheel);
        trace.plan();
        trace.now("now");
        trace.seedOf("now");
        trace.undone();
        trace.images();
        trace.text();
        return trace.lines;
    }

    private void line(String what, int answer) {
        lines.add(what + " is " + answer);
    }

    private void plan() {
        for (int what = 0; what <= 17; what++) {
            line("told(" + what + ")", x.told(what));
        }
        line("fault()", x.fault());
        for (int k = 0; k < x.told(0); k++) {
            line("likely(" + k + ")", x.likely(k));
            line("belief(" + k + ")", x.belief(k));
        }
        for (int t = 0; t < x.told(1); t++) {
            for (int what = 0; what <= 3; what++) {
                line("test(" + t + ", " + what + ")", x.test(t, what));
            }
        }
        line("paid()", x.paid());
        line("ask()", x.ask());
        line("next()", x.next());
        line("leastLiars(0)", x.leastLiars(0));
        line("judge()", x.judge());
    }

    private void now(String when) {
        for (int what = 6; what <= 14; what++) {
            line(when + ": told(" + what + ")", x.told(what));
        }
        for (int s = 0; s < x.told(2); s++) {
            for (int what = 0; what <= 3; what++) {
                line(when + ": servant(" + s + ", " + what + ")", x.servant(s, what));
            }
        }
    }

    private void seedOf(String when) {
        int seed = x.seed(0);
        x.seed(seed);
        line(when + ": THE SEED", seed);
    }

    /** The book's first wrong entry changes with what is undone, so that its entries are seen, too. */
    private void undone() {
        for (int i = 0; i < 21; i++) {
            line("undo() " + i, x.undo());
            line("undone: told(6)", x.told(6));
            line("undone: told(14)", x.told(14));
            line("undone: judge()", x.judge());
        }
        now("undone");
        seedOf("undone");
    }

    private void images() {
        for (int i = 0; i < 2; i++) {
            line("goBack(" + i + ")", x.goBack(i));
            now("image " + i);
            seedOf("image " + i);
        }
    }

    private void text() {
        line("tear()", x.tear());
        line("castle()", x.castle());
        line("fault() of it", x.fault());
        line("ways of it", x.told(0));
        line("servants of it", x.told(2));
    }
}
