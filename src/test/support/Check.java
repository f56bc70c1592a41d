/** Counts the calls whose answer is not the one that is due. */
final class Check {
    private final String name;
    private int asked = 0;
    private int wrong = 0;

    Check(String name) {
        this.name = name;
    }

    void due(String call, long got, long want) {
        asked++;
        if (got != want) {
            wrong++;
            System.out.println(name + ": " + call + " answered " + got + ", due is " + want);
        }
    }

    void end() {
        System.out.println(name + ": " + asked + " answers, " + wrong + " wrong");
        if (wrong != 0 || asked == 0) {
            System.exit(1);
        }
    }

    static void feed(TurningWheel wheel, String text) {
        for (int i = 0; i < text.length(); i++) {
            wheel.feed(text.charAt(i));
        }
    }

    static TurningWheel wheel(String text) {
        TurningWheel wheel = new TurningWheel();
        feed(wheel, text);
        wheel.castle();
        return wheel;
    }
}
