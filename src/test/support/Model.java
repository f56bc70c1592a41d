import java.util.ArrayDeque;
import java.util.ArrayList;
import java.util.Arrays;
import java.util.Deque;
import java.util.HashMap;
import java.util.List;
import java.util.Map;
import java.util.TreeMap;
import java.util.TreeSet;

/** The document once more, slowly and with the library: sets are sets, what was so is copied whole. */
final class Model {
    static final int NONE = -1, UNKNOWN = -1000000001, OUTSIDE = -1000000002, NOT = -1000000003, FULL = -1000000004;

    private record Token(char kind, String figures, int place) { }

    private record Test(int rules, int shows, int cost) { }

    private record Servant(int says, int price) { }

    private static final class Plan {
        List<Integer> likely = new ArrayList<>();
        List<Test> tests = new ArrayList<>();
        List<Servant> servants = new ArrayList<>();
        int pay = 0, every = 0;
    }

    private static final class Wrong extends Exception {
        private static final long serialVersionUID = 1L;
        final int kind, place;

        Wrong(int kind, int place) {
            this.kind = kind;
            this.place = place;
        }
    }

    private static final class Done {
        int days = 0, turned = 0;
        boolean smashed = false, sealed = true;
        TreeSet<Integer> made = new TreeSet<>();
        Map<Integer, Integer> hiredOn = new TreeMap<>();
        Map<Integer, Integer> says = new HashMap<>();
        Map<Integer, Integer> got = new HashMap<>();

        Done copy() {
            Done d = new Done();
            d.days = days;
            d.turned = turned;
            d.smashed = smashed;
            d.sealed = sealed;
            d.made.addAll(made);
            d.hiredOn.putAll(hiredOn);
            d.says.putAll(says);
            d.got.putAll(got);
            return d;
        }
    }

    private StringBuilder text = new StringBuilder();
    private int faultPlace = NONE;
    private Plan plan = new Plan();
    private Done done = new Done();
    private final Deque<Done> past = new ArrayDeque<>();
    private final Done[] images = new Done[2];
    private final long[] imageSeeds = new long[2];
    private long seed = 0;
    private final List<int[]> heard = new ArrayList<>();
    private final List<Integer> book = new ArrayList<>();

    // ---- the text

    private static List<Token> tokens(String text) {
        List<Token> tokens = new ArrayList<>();
        java.util.regex.Matcher m = java.util.regex.Pattern.compile("[0-9]+|[^ ]", java.util.regex.Pattern.DOTALL).matcher(text);
        while (m.find()) {
            boolean figures = m.group().charAt(0) >= '0' && m.group().charAt(0) <= '9';
            tokens.add(new Token(figures ? '#' : m.group().charAt(0) == '#' ? '?' : m.group().charAt(0), m.group(), m.start()));
        }
        tokens.add(new Token('$', "", text.length()));
        return tokens;
    }

    private static int number(Token token, int least, int most) throws Wrong {
        if (token.kind != '#') {
            throw new Wrong(1, token.place);
        }
        if (token.figures.length() > 3) {
            throw new Wrong(2, token.place);
        }
        int value = Integer.parseInt(token.figures);
        if (value < least || value > most) {
            throw new Wrong(2, token.place);
        }
        return value;
    }

    private static void word(Token token, String words) throws Wrong {
        if (words.indexOf(token.kind) < 0 || token.figures.isEmpty()) {
            throw new Wrong(1, token.place);
        }
    }

    private static Plan parse(String text) throws Wrong {
        Plan plan = new Plan();
        Deque<Token> in = new ArrayDeque<>(tokens(text));
        if (in.size() == 1) {
            return plan;
        }
        plan.pay = 1;
        plan.every = 1;
        word(in.poll(), "w");
        while (true) {
            plan.likely.add(number(in.poll(), 1, 999));
            int n = plan.likely.size();
            word(in.peek(), n == 1 ? "," : n == 8 ? ";" : ",;");
            if (in.poll().kind == ';') {
                break;
            }
        }
        boolean payTold = false;
        while (!in.peek().figures.isEmpty()) {
            Token first = in.poll();
            if (first.kind == 'w' || first.kind == 'p' && payTold || first.kind == 't' && plan.tests.size() == 6
                    || first.kind == 's' && plan.servants.size() == 5) {
                throw new Wrong(3, first.place);
            }
            word(first, "tsp");
            if (first.kind == 't') {
                Token r = in.peek();
                int rules = number(in.poll(), 0, (1 << plan.likely.size()) - 1);
                if (rules % 2 == 1) {
                    throw new Wrong(2, r.place);
                }
                plan.tests.add(new Test(rules, number(in.poll(), 0, 63), number(in.poll(), 0, 999)));
            } else if (first.kind == 's') {
                plan.servants.add(new Servant(number(in.poll(), 1, (1 << plan.likely.size()) - 1), number(in.poll(), 0, 999)));
            } else {
                payTold = true;
                plan.pay = number(in.poll(), 1, 99);
                plan.every = number(in.poll(), 1, 30);
            }
            word(in.poll(), ";");
        }
        return plan;
    }

    int feed(int letter) {
        if (letter < 0 || letter > 255) {
            return OUTSIDE;
        }
        if (text.length() == 240) {
            return FULL;
        }
        text.append((char) letter);
        return text.length();
    }

    int castle() {
        String told = text.toString();
        text = new StringBuilder();
        try {
            plan = parse(told);
        } catch (Wrong wrong) {
            faultPlace = wrong.place;
            return -10 - wrong.kind;
        }
        faultPlace = NONE;
        done = new Done();
        past.clear();
        heard.clear();
        book.clear();
        Arrays.fill(images, null);
        return plan.likely.size();
    }

    int fault() {
        return faultPlace;
    }

    // ---- looked at

    private boolean none() {
        return plan.likely.isEmpty();
    }

    private static boolean in(int k, List<?> list) {
        return k >= 0 && k < list.size();
    }

    private boolean ways(int set) {
        return set >= 0 && set < 1 << plan.likely.size();
    }

    private int left(Iterable<Integer> made) {
        int out = 0;
        for (int t : made) {
            out |= plan.tests.get(t).rules;
        }
        return (1 << plan.likely.size()) - 1 - out;
    }

    private int left() {
        return left(done.made);
    }

    private int says(int s) {
        return done.says.getOrDefault(s, plan.servants.get(s).says);
    }

    private int got(int s) {
        return done.got.getOrDefault(s, 0);
    }

    private static int set(Iterable<Integer> members) {
        int set = 0;
        for (int k : members) {
            set += 1 << k;
        }
        return set;
    }

    private int told14() {
        long sum = 0;
        for (int t : done.made) {
            sum += plan.tests.get(t).cost;
        }
        for (int s = 0; s < plan.servants.size(); s++) {
            sum += got(s);
        }
        return (int) Math.min(sum, 999999);
    }

    int told(int what) {
        int shown = 0;
        for (int t : done.made) {
            shown |= plan.tests.get(t).shows;
        }
        int[] all = {plan.likely.size(), plan.tests.size(), plan.servants.size(), text.length(), plan.pay, plan.every, done.days,
            done.turned, none() || done.smashed ? 0 : 1, none() || !done.sealed ? 0 : 1, set(done.made), left(), shown,
            set(done.hiredOn.keySet()), told14(), heard.size(), book.size(), past.size()};
        return what >= 0 && what < all.length ? all[what] : OUTSIDE;
    }

    int likely(int w) {
        return in(w, plan.likely) ? plan.likely.get(w) : UNKNOWN;
    }

    int test(int t, int what) {
        if (!in(t, plan.tests)) {
            return UNKNOWN;
        }
        Test test = plan.tests.get(t);
        int[] all = {test.rules, test.shows, test.cost, done.made.contains(t) ? 1 : 0};
        return what >= 0 && what < 4 ? all[what] : OUTSIDE;
    }

    int servant(int s, int what) {
        if (!in(s, plan.servants)) {
            return UNKNOWN;
        }
        int since = done.hiredOn.containsKey(s) ? (done.days - done.hiredOn.get(s)) % plan.every : NONE;
        int[] all = {says(s), plan.servants.get(s).price, got(s), since};
        return what >= 0 && what < 4 ? all[what] : OUTSIDE;
    }

    // ---- done

    private void remember() {
        past.addLast(done.copy());
        if (past.size() > 20) {
            past.removeFirst();
        }
    }

    private void give(int s, int much) {
        done.got.put(s, Math.min(999999, got(s) + much));
    }

    private void dayPasses() {
        done.days++;
        done.turned += done.smashed ? 0 : 1;
        for (Map.Entry<Integer, Integer> e : done.hiredOn.entrySet()) {
            if ((done.days - e.getValue()) % plan.every == 0) {
                give(e.getKey(), plan.pay);
            }
        }
    }

    private boolean can(int t) {
        return !done.made.contains(t) && !done.smashed && !(done.sealed && plan.tests.get(t).shows != 0);
    }

    private int draw(int n) {
        seed = (seed * 1103515245L + 12345L) & 0x7fffffffL;
        return (int) ((seed >> 16) % n);
    }

    private int days(int n, boolean drawn) {
        if (n < 1 || n > 60) {
            return OUTSIDE;
        }
        if (none()) {
            return NOT;
        }
        if (done.days > 9000) {
            return FULL;
        }
        remember();
        for (int i = 0; i < n; i++) {
            int d = drawn ? draw(8) : 7;
            if (d == 0 && !plan.tests.isEmpty()) {
                int t = draw(plan.tests.size());
                if (can(t)) {
                    done.made.add(t);
                }
            }
            if (d == 1 && !plan.servants.isEmpty()) {
                int s = draw(plan.servants.size());
                if (done.hiredOn.remove(s) == null) {
                    done.hiredOn.put(s, done.days);
                }
            }
            if (d == 2) {
                done.sealed = !done.sealed;
            }
            dayPasses();
        }
        return drawn ? left() : done.days;
    }

    int day(int n) {
        return days(n, false);
    }

    int drift(int n) {
        return days(n, true);
    }

    int make(int t) {
        if (!in(t, plan.tests)) {
            return UNKNOWN;
        }
        if (!can(t)) {
            return NOT;
        }
        remember();
        done.made.add(t);
        return left();
    }

    int seal(boolean is) {
        if (none()) {
            return NOT;
        }
        remember();
        int was = told(9);
        done.sealed = is;
        return was;
    }

    int smash() {
        if (none() || done.smashed) {
            return NOT;
        }
        remember();
        done.smashed = true;
        return done.turned;
    }

    int hire(int s, boolean is) {
        if (!in(s, plan.servants)) {
            return UNKNOWN;
        }
        remember();
        int was = done.hiredOn.remove(s) == null ? 0 : 1;
        if (is) {
            done.hiredOn.put(s, done.days);
        }
        return was;
    }

    int buy(int s, int ways, int much) {
        if (!in(s, plan.servants) || !ways(ways) || ways == 0) {
            return UNKNOWN;
        }
        if (much < 0 || much > 9999) {
            return OUTSIDE;
        }
        if (much < plan.servants.get(s).price) {
            return NOT;
        }
        remember();
        done.says.put(s, ways);
        give(s, much);
        return got(s);
    }

    int undo() {
        if (past.isEmpty()) {
            return NOT;
        }
        done = past.removeLast();
        return past.size();
    }

    // ---- tried

    private long weight(int set) {
        long sum = 0;
        for (int w = 0; w < plan.likely.size(); w++) {
            sum += (set >> w) % 2 * plan.likely.get(w);
        }
        return sum;
    }

    private long beliefBy(int w, int left) {
        return (left >> w) % 2 == 0 ? 0 : 1000000L * plan.likely.get(w) / weight(left);
    }

    int belief(int w) {
        return in(w, plan.likely) ? (int) beliefBy(w, left()) : UNKNOWN;
    }

    int liars(int w) {
        if (!in(w, plan.likely)) {
            return UNKNOWN;
        }
        List<Integer> liars = new ArrayList<>();
        for (int s = 0; s < plan.servants.size(); s++) {
            if ((says(s) >> w) % 2 == 0) {
                liars.add(s);
            }
        }
        return set(liars);
    }

    int leastLiars(int what) {
        if (what != 0 && what != 1) {
            return OUTSIDE;
        }
        if (none()) {
            return NOT;
        }
        for (int count = 0;; count++) {
            for (int w = 0; w < plan.likely.size(); w++) {
                if ((left() >> w) % 2 == 1 && Integer.bitCount(liars(w)) == count) {
                    return what == 0 ? w : count;
                }
            }
        }
    }

    int ruleOut(int ways, int secrets, int what) {
        if (!ways(ways) || ways % 2 == 1 || secrets < 0 || secrets > 63) {
            return UNKNOWN;
        }
        if (what != 0 && what != 1) {
            return OUTSIDE;
        }
        long best = Long.MAX_VALUE;
        for (int tests = 0; tests < 1 << plan.tests.size(); tests++) {
            int out = 0, shown = 0;
            long cost = 0;
            for (int t = 0; t < plan.tests.size(); t++) {
                if ((tests >> t) % 2 == 1) {
                    out |= plan.tests.get(t).rules;
                    shown |= plan.tests.get(t).shows;
                    cost += done.made.contains(t) ? 0 : plan.tests.get(t).cost;
                }
            }
            if ((out & ways) == ways && (shown | secrets) == secrets) {
                best = Math.min(best, cost * 64 + tests);
            }
        }
        return best == Long.MAX_VALUE ? NONE : (int) (what == 0 ? best % 64 : best / 64);
    }

    int next() {
        long best = Long.MAX_VALUE;
        for (int t = 0; t < plan.tests.size(); t++) {
            int then = left() & ~plan.tests.get(t).rules;
            if (!done.made.contains(t) && then != left()) {
                best = Math.min(best, (weight(then) * 1000 + plan.tests.get(t).cost) * 8 + t);
            }
        }
        return best == Long.MAX_VALUE ? NONE : (int) (best % 8);
    }

    private static boolean money(int... all) {
        for (int m : all) {
            if (m < 0 || m > 9999) {
                return false;
            }
        }
        return true;
    }

    int offer(int v, int c) {
        if (!money(v, c)) {
            return OUTSIDE;
        }
        return none() ? NOT : (int) Math.max(0, v * beliefBy(0, left()) / 1000000 - c);
    }

    int both(int v, int c, int w) {
        if (!money(v, c, w)) {
            return OUTSIDE;
        }
        return none() ? NOT : Math.max(0, offer(v, c) - w) / 2;
    }

    int worth(int t, int v) {
        if (!in(t, plan.tests)) {
            return UNKNOWN;
        }
        if (!money(v)) {
            return OUTSIDE;
        }
        TreeSet<Integer> too = new TreeSet<>(done.made);
        too.add(t);
        return (int) (v * beliefBy(0, left(too)) / 1000000) - offer(v, 0) - plan.tests.get(t).cost + 100000;
    }

    int secret(int n, int q) {
        if (n < 0 || n > 60 || q < 0 || q > 100) {
            return OUTSIDE;
        }
        return n == 0 ? 1000000 : (int) ((long) secret(n - 1, q) * (100 - q) / 100);
    }

    // ---- heard

    int hear(int n, boolean got) {
        if (n < 0 || n > 59) {
            return OUTSIDE;
        }
        if (none()) {
            return NOT;
        }
        if (heard.size() == 6) {
            return FULL;
        }
        heard.add(new int[] {n, got ? 1 : 0});
        return heard.size();
    }

    private List<Integer> fitting() {
        List<Integer> all = new ArrayList<>();
        for (int r = 0; r < plan.every; r++) {
            TreeSet<Integer> money = new TreeSet<>();
            for (int n = r; n < 60; n += plan.every) {
                money.add(n);
            }
            boolean fits = true;
            for (int[] one : heard) {
                fits &= money.contains(one[0]) == (one[1] == 1);
            }
            if (fits) {
                all.add(r);
            }
        }
        return all;
    }

    int paid() {
        return none() ? NOT : set(fitting());
    }

    int ask() {
        if (none()) {
            return NOT;
        }
        List<Integer> all = fitting();
        int best = NONE, least = all.size();
        for (int n = 0; n < 60; n++) {
            int yes = 0;
            for (int r : all) {
                yes += n >= r && (n - r) % plan.every == 0 ? 1 : 0;
            }
            if (Math.max(yes, all.size() - yes) < least) {
                least = Math.max(yes, all.size() - yes);
                best = n;
            }
        }
        return best;
    }

    int write(int ways) {
        if (!ways(ways)) {
            return UNKNOWN;
        }
        if (book.size() == 15) {
            return FULL;
        }
        book.add(ways);
        return book.size();
    }

    int tear() {
        int had = heard.size() + book.size();
        heard.clear();
        book.clear();
        return had;
    }

    int judge() {
        for (int i = 0; i < book.size(); i++) {
            if (book.get(i) != left()) {
                return i;
            }
        }
        return NONE;
    }

    // ---- draws, images

    int seed(int v) {
        if (v < 0) {
            return OUTSIDE;
        }
        int was = (int) seed;
        seed = v;
        return was;
    }

    int keep(int i) {
        if (i != 0 && i != 1) {
            return UNKNOWN;
        }
        images[i] = done.copy();
        imageSeeds[i] = seed;
        past.clear();
        return 1;
    }

    int goBack(int i) {
        if (i != 0 && i != 1) {
            return UNKNOWN;
        }
        if (images[i] == null) {
            return NOT;
        }
        done = images[i].copy();
        seed = imageSeeds[i];
        past.clear();
        return 1;
    }
}
