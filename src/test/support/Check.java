import java.util.List;

/** Counts the calls whose answer is not the one that is due. */
final class Check {
    private final String name;
    private int asked = 0;
    private int wrong = 0;

    Check(String name) {
        this.name = name;
    }

    void due(String call, long got, long want) {
        asked++;
        if (got != want) {
            wrong++;
            System.out.println(name + ": " + call + " answered " + got + ", due is " + want);
        }
    }

    /** Two traces, line by line alike, but for lines that begin as told. */
    void alike(String when, List<String> is, List<String> want, String but) {
        due(when + ": lines", is.size(), want.size());
        for (int i = 0; i < Math.min(is.size(), want.size()); i++) {
            boolean same = is.get(i).equals(want.get(i)) || is.get(i).startsWith(but);
            due(when + ", then " + is.get(i) + ", it must be: " + want.get(i) + ": alike", same ? 1 : 0, 1);
        }
    }

    void alike(String when, TurningWheel is, TurningWheel want) {
        alike(when, Trace.of(is), Trace.of(want), "nothing else");
    }

    void end() {
        System.out.println(name + ": " + asked + " answers, " + wrong + " wrong");
        if (wrong != 0 || asked == 0) {
            System.exit(1);
        }
    }

    static void feed(TurningWheel wheel, String text) {
        for (int i = 0; i < text.length(); i++) {
            wheel.feed(text.charAt(i));
        }
    }

    static TurningWheel wheel(String text) {
        TurningWheel wheel = new TurningWheel();
        feed(wheel, text);
        wheel.castle();
        return wheel;
    }
}
