import java.util.Random;

/** Runs of chance calls, 512 at most each: the class answers as the model does, throws nothing, and refuses without a trace. */
public final class ModelTest {
    private static final int RUNS = 6000;
    private static final int CALLS = 512;
    private static final Check check = new Check("ModelTest");
    private final Random random;
    private final TurningWheel x = new TurningWheel();
    private final Model y = new Model();
    private int calls = 0;

    private ModelTest(long seed) {
        random = new Random(seed);
    }

    public static void main(String[] args) {
        for (int run = 0; run < RUNS; run++) {
            new ModelTest(run).play(run);
        }
        for (int run = 0; run < 200000; run++) {
            new ModelTest(1000000 + run).readOne();
        }
        check.end();
    }

    private void play(int run) {
        if (random.nextInt(8) > 0) {
            text(random.nextInt(4) == 0);
        }
        int deeds = random.nextInt(3);
        while (calls < CALLS) {
            if (random.nextInt(200) == 0 && calls < 250) {
                text(random.nextBoolean());
            }
            call(deeds == 0 ? 7 + random.nextInt(9) : random.nextInt(35));
        }
        trace("at the end of run " + run);
    }

    private void readOne() {
        text(true);
        trace("of a text");
    }

    /** All that can be looked at, once nothing more is asked of the object. */
    private void trace(String when) {
        for (int what = 0; what < 18; what++) {
            check.due("told(" + what + ") " + when, x.told(what), y.told(what));
        }
        for (int k = 0; k < 8; k++) {
            check.due("likely " + when, x.likely(k), y.likely(k));
            for (int what = 0; what < 4; what++) {
                check.due("test " + when, x.test(k, what), y.test(k, what));
                check.due("servant " + when, x.servant(k, what), y.servant(k, what));
            }
        }
        check.due("judge " + when, x.judge(), y.judge());
        check.due("paid " + when, x.paid(), y.paid());
        check.due("seed " + when, x.seed(0), y.seed(0));
    }

    private void text(boolean spoilt) {
        StringBuilder text = new StringBuilder("w");
        int ways = 2 + random.nextInt(7);
        for (int w = 0; w < ways; w++) {
            text.append(w == 0 ? "" : ",").append(number(1, random.nextBoolean() ? 4 : 999));
        }
        text.append(';');
        int clauses = random.nextInt(16);
        boolean pay = false;
        int tests = 0, servants = 0;
        for (int i = 0; i < clauses; i++) {
            int kind = random.nextInt(5);
            if (kind < 2 && (tests < 6 || spoilt)) {
                tests++;
                text.append('t').append(random.nextInt(1 << ways - 1) * 2 & random.nextInt(256)).append(' ')
                    .append(random.nextBoolean() ? 0 : random.nextInt(64)).append(' ').append(number(0, 999)).append(';');
            } else if (kind < 4 && (servants < 5 || spoilt)) {
                servants++;
                text.append('s').append(number(1, (1 << ways) - 1)).append(' ').append(number(0, 999)).append(';');
            } else if (!pay || spoilt && random.nextInt(4) == 0) {
                pay = true;
                text.append('p').append(number(1, 99)).append(' ').append(number(1, 30)).append(';');
            }
        }
        blanks(text);
        for (int i = spoilt ? random.nextInt(3) : 0; i > 0; i--) {
            spoil(text);
        }
        for (int i = 0; i < text.length(); i++) {
            int letter = text.charAt(i);
            check.due("feed", x.feed(letter), y.feed(letter));
        }
        check.due("castle of '" + text + "'", x.castle(), y.castle());
        check.due("fault of '" + text + "'", x.fault(), y.fault());
        calls += Math.min(240, text.length()) + 2;
    }

    private int number(int least, int most) {
        return least + random.nextInt(most - least + 1);
    }

    private void blanks(StringBuilder text) {
        for (int i = random.nextInt(4); i > 0; i--) {
            int at = random.nextInt(text.length() + 1);
            boolean within = at > 0 && at < text.length() && Character.isDigit(text.charAt(at - 1)) && Character.isDigit(text.charAt(at));
            if (!within) {
                text.insert(at, ' ');
            }
        }
    }

    private void spoil(StringBuilder text) {
        String letters = "wtsp,; 0123456789x#$-" + (char) 0 + (char) 255 + "\t\n";
        int at = random.nextInt(text.length() + 1);
        char letter = letters.charAt(random.nextInt(letters.length()));
        switch (random.nextInt(4)) {
            case 0: text.insert(at, letter); break;
            case 1: text.setLength(at); break;
            case 2: if (at < text.length()) { text.deleteCharAt(at); } break;
            default: if (at < text.length()) { text.setCharAt(at, letter); } break;
        }
    }

    /** Mostly a number that may be, now and then one that is near the edge or far out. */
    private int some(int below) {
        switch (random.nextInt(16)) {
            case 0: return -1;
            case 1: return below;
            case 2: return random.nextInt(40) == 0 ? Integer.MIN_VALUE : below - 1;
            case 3: return random.nextInt(40) == 0 ? Integer.MAX_VALUE : 0;
            default: return random.nextInt(below);
        }
    }

    private int set() {
        int all = Math.max(1, (1 << y.told(0)) - 1);
        return random.nextInt(12) == 0 ? some(512) : random.nextInt(all + 1);
    }

    private int member(int count) {
        return some(Math.max(1, count));
    }

    private void call(int which) {
        int before = random.nextInt(20) == 0 ? imprint() : 0;
        int answer = which < 17 ? done(which) : tried(which);
        if (before != 0 && answer <= TurningWheel.UNKNOWN) {
            check.due("what is so, call " + which + " refused", imprint(), before);
        }
        calls++;
    }

    /** A number of all that is told, other than 0. */
    private int imprint() {
        int sum = 1;
        for (int what = 0; what < 18; what++) {
            sum = sum * 31 + x.told(what);
        }
        for (int s = 0; s < 5; s++) {
            sum = sum * 31 + x.servant(s, 0);
            sum = sum * 31 + x.servant(s, 2);
            sum = sum * 31 + x.servant(s, 3);
        }
        sum = sum * 31 + x.judge();
        sum = sum * 31 + x.paid();
        calls += 35;
        return sum == 0 ? 1 : sum;
    }

    private int due(String call, int got, int want) {
        check.due(call, got, want);
        return got;
    }

    private int done(int which) {
        int a = some(61), t = member(y.told(1)), s = member(y.told(2)), ways = set();
        int much = random.nextBoolean() ? some(10000) : some(1000);
        boolean is = random.nextInt(3) > 0;
        switch (which) {
            case 0: return due("told", x.told(a % 19), y.told(a % 19));
            case 1: return due("likely", x.likely(a % 9), y.likely(a % 9));
            case 2: return due("test", x.test(t, a % 5), y.test(t, a % 5));
            case 3: return due("servant", x.servant(s, a % 5), y.servant(s, a % 5));
            case 4: return due("fault", x.fault(), y.fault());
            case 5: return random.nextInt(30) > 0 ? 0 : due("feed(" + much + ")", x.feed(much), y.feed(much));
            case 6: return random.nextInt(60) > 0 ? 0 : due("castle", x.castle(), y.castle());
            case 7: case 8: return due("day(" + a + ")", x.day(a), y.day(a));
            case 9: return due("make(" + t + ")", x.make(t), y.make(t));
            case 10: return due("seal(" + is + ")", x.seal(!is), y.seal(!is));
            case 11: return random.nextInt(12) > 0 ? 0 : due("smash()", x.smash(), y.smash());
            case 12: return due("hire(" + s + ", " + is + ")", x.hire(s, is), y.hire(s, is));
            case 13: return due("buy(" + s + ", " + ways + ", " + much + ")", x.buy(s, ways, much), y.buy(s, ways, much));
            case 14: return due("drift(" + a + ")", x.drift(a), y.drift(a));
            case 15: return due("undo()", x.undo(), y.undo());
            default: return due("tear()", x.tear(), y.tear());
        }
    }

    private int tried(int which) {
        int w = member(y.told(0)), t = member(y.told(1)), ways = set() & (random.nextInt(9) == 0 ? -1 : -2);
        int v = some(10000), c = some(random.nextBoolean() ? 10000 : 100), want = some(random.nextBoolean() ? 10000 : 100);
        int what = random.nextInt(12) == 0 ? some(2) : random.nextInt(2);
        int secrets = random.nextBoolean() ? 63 : some(64);
        int n = some(60), q = some(101), i = random.nextInt(9) == 0 ? some(2) : random.nextInt(2);
        boolean got = random.nextInt(4) == 0;
        switch (which) {
            case 17: return due("belief(" + w + ")", x.belief(w), y.belief(w));
            case 18: return due("liars(" + w + ")", x.liars(w), y.liars(w));
            case 19: return due("leastLiars(" + what + ")", x.leastLiars(what), y.leastLiars(what));
            case 20: case 21: return due("ruleOut(" + ways + ", " + secrets + ", " + what + ")",
                x.ruleOut(ways, secrets, what), y.ruleOut(ways, secrets, what));
            case 22: return due("next()", x.next(), y.next());
            case 23: return due("offer(" + v + ", " + c + ")", x.offer(v, c), y.offer(v, c));
            case 24: return due("both(" + v + ", " + c + ", " + want + ")", x.both(v, c, want), y.both(v, c, want));
            case 25: return due("worth(" + t + ", " + v + ")", x.worth(t, v), y.worth(t, v));
            case 26: return due("secret(" + n + ", " + q + ")", x.secret(n, q), y.secret(n, q));
            case 27: return due("hear(" + n + ", " + got + ")", x.hear(n, got), y.hear(n, got));
            case 28: return due("paid()", x.paid(), y.paid());
            case 29: return due("ask()", x.ask(), y.ask());
            case 30: return due("write(" + ways + ")", x.write(ways | w & 1), y.write(ways | w & 1));
            case 31: return due("judge()", x.judge(), y.judge());
            case 32: return due("seed(" + v + ")", x.seed(v), y.seed(v));
            case 33: return random.nextInt(6) > 0 ? 0 : due("keep(" + i + ")", x.keep(i), y.keep(i));
            default: return random.nextInt(6) > 0 ? 0 : due("goBack(" + i + ")", x.goBack(i), y.goBack(i));
        }
    }
}
