/** The wheel that turned for fifty-four days: what may turn it, what tests would show, who is paid to say what. */
public final class TurningWheel {
    public static final int NONE = -1, UNKNOWN = -1000000001, OUTSIDE = -1000000002, NOT = -1000000003, FULL = -1000000004;

    private static final int MILLION = 1000000;
    private static final int MOST_LETTERS = 240;
    private static final int MOST_WAYS = 8;
    private static final int MOST_TESTS = 6;
    private static final int MOST_SERVANTS = 5;
    private static final int ALL_SECRETS = 63;
    private static final int MOST_COUNTED = 999999;
    private static final int MOST_MONEY = 9999;
    private static final int MOST_DAYS_AT_ONCE = 60;
    private static final int LAST_DAY_TO_START = 9000;
    private static final int MOST_UNDONE = 20;
    private static final int MOST_HEARD = 6;
    private static final int MOST_DAYS_AGO = 59;
    private static final int MOST_ENTRIES = 15;
    private static final int MOST_TELLERS = 60;
    private static final int HUNDRED = 100;
    private static final int IMAGES = 2;
    private static final int WORTH_BASE = 100000;

    private int faultPlace = NONE;
    private final Reader reader = new Reader();
    private Castle plan = new Castle();
    private final Affairs now = new Affairs();
    private final History history = new History();
    private final Hearsay hearsay = new Hearsay();
    private final Book book = new Book();
    private final Draws draws = new Draws();
    private final Image[] images = new Image[IMAGES];

    public TurningWheel() {
        for (int i = 0; i < IMAGES; i++) {
            images[i] = new Image();
        }
    }

    // ---- the castle

    public int feed(int letter) {
        if (!within(letter, 0, 255)) {
            return OUTSIDE;
        }
        return reader.add(letter) ? reader.count : FULL;
    }

    public int castle() {
        int kind = reader.readText();
        if (kind != Reader.NO_FAULT) {
            faultPlace = reader.place;
            return -10 - kind;
        }
        faultPlace = NONE;
        plan = reader.exchange(plan);
        beginAnew();
        return plan.ways;
    }

    public int fault() {
        return faultPlace;
    }

    public int told(int what) {
        switch (what) {
            case 0: return plan.ways;
            case 1: return plan.tests;
            case 2: return plan.servants;
            case 3: return reader.count;
            case 4: return plan.pay;
            case 5: return plan.every;
            case 6: return now.days;
            case 7: return now.turned;
            case 8: return now.turns ? 1 : 0;
            case 9: return now.sealed ? 1 : 0;
            case 10: return now.made;
            case 11: return waysLeft();
            case 12: return plan.secretsOf(now.made);
            case 13: return now.hired;
            case 14: return spent();
            case 15: return hearsay.count;
            case 16: return book.count;
            case 17: return history.count;
            default: return OUTSIDE;
        }
    }

    public int likely(int w) {
        return plan.hasWay(w) ? plan.likely[w] : UNKNOWN;
    }

    public int test(int t, int what) {
        if (!plan.hasTest(t)) {
            return UNKNOWN;
        }
        switch (what) {
            case 0: return plan.rules[t];
            case 1: return plan.shows[t];
            case 2: return plan.costs[t];
            case 3: return has(now.made, t) ? 1 : 0;
            default: return OUTSIDE;
        }
    }

    public int servant(int s, int what) {
        if (!plan.hasServant(s)) {
            return UNKNOWN;
        }
        switch (what) {
            case 0: return now.says[s];
            case 1: return plan.prices[s];
            case 2: return now.got[s];
            case 3: return has(now.hired, s) ? now.since[s] : NONE;
            default: return OUTSIDE;
        }
    }

    // ---- what is done

    public int day(int n) {
        int refusal = refusalOfDays(n);
        if (refusal != 0) {
            return refusal;
        }
        history.remember(now);
        for (int i = 0; i < n; i++) {
            now.passDay(plan);
        }
        return now.days;
    }

    public int make(int t) {
        if (!plan.hasTest(t)) {
            return UNKNOWN;
        }
        if (!now.canMake(plan, t)) {
            return NOT;
        }
        history.remember(now);
        now.made |= 1 << t;
        return waysLeft();
    }

    public int seal(boolean is) {
        if (!plan.stands()) {
            return NOT;
        }
        history.remember(now);
        int was = now.sealed ? 1 : 0;
        now.sealed = is;
        return was;
    }

    public int smash() {
        if (!plan.stands() || !now.turns) {
            return NOT;
        }
        history.remember(now);
        now.turns = false;
        return now.turned;
    }

    public int hire(int s, boolean is) {
        if (!plan.hasServant(s)) {
            return UNKNOWN;
        }
        history.remember(now);
        int was = has(now.hired, s) ? 1 : 0;
        now.setHired(s, is);
        return was;
    }

    public int buy(int s, int ways, int much) {
        if (!plan.hasServant(s) || !plan.hasWays(ways) || ways == 0) {
            return UNKNOWN;
        }
        if (!within(much, 0, MOST_MONEY)) {
            return OUTSIDE;
        }
        if (much < plan.prices[s]) {
            return NOT;
        }
        history.remember(now);
        now.says[s] = ways;
        now.give(s, much);
        return now.got[s];
    }

    public int drift(int n) {
        int refusal = refusalOfDays(n);
        if (refusal != 0) {
            return refusal;
        }
        history.remember(now);
        for (int i = 0; i < n; i++) {
            doByDraw();
            now.passDay(plan);
        }
        return waysLeft();
    }

    public int undo() {
        if (history.count == 0) {
            return NOT;
        }
        history.recall(now);
        return history.count;
    }

    // ---- tried

    public int belief(int w) {
        return plan.hasWay(w) ? plan.beliefIn(w, waysLeft()) : UNKNOWN;
    }

    public int liars(int w) {
        return plan.hasWay(w) ? liarsBy(w) : UNKNOWN;
    }

    public int leastLiars(int what) {
        if (!within(what, 0, 1)) {
            return OUTSIDE;
        }
        if (!plan.stands()) {
            return NOT;
        }
        int way = wayOfFewestLiars();
        return what == 0 ? way : Integer.bitCount(liarsBy(way));
    }

    public int ruleOut(int ways, int secrets, int what) {
        if (!plan.hasWays(ways) || has(ways, 0) || !within(secrets, 0, ALL_SECRETS)) {
            return UNKNOWN;
        }
        if (!within(what, 0, 1)) {
            return OUTSIDE;
        }
        int tests = cheapestTests(ways, secrets);
        if (tests == NONE || what == 0) {
            return tests;
        }
        return costYet(tests);
    }

    public int next() {
        int left = waysLeft();
        int best = NONE;
        // Only what leaves less than is left now rules out anything.
        int least = plan.likelyOf(left);
        for (int t = 0; t < plan.tests; t++) {
            if (has(now.made, t)) {
                continue;
            }
            int then = plan.likelyOf(left & ~plan.rules[t]);
            boolean cheaper = best != NONE && then == least && plan.costs[t] < plan.costs[best];
            if (then < least || cheaper) {
                best = t;
                least = then;
            }
        }
        return best;
    }

    public int offer(int v, int c) {
        if (!within(v, 0, MOST_MONEY) || !within(c, 0, MOST_MONEY)) {
            return OUTSIDE;
        }
        if (!plan.stands()) {
            return NOT;
        }
        return offerFor(v, c, waysLeft());
    }

    public int both(int v, int c, int w) {
        if (!within(v, 0, MOST_MONEY) || !within(c, 0, MOST_MONEY) || !within(w, 0, MOST_MONEY)) {
            return OUTSIDE;
        }
        if (!plan.stands()) {
            return NOT;
        }
        int offered = offerFor(v, c, waysLeft());
        return offered > w ? (offered - w) / 2 : 0;
    }

    public int worth(int t, int v) {
        if (!plan.hasTest(t)) {
            return UNKNOWN;
        }
        if (!within(v, 0, MOST_MONEY)) {
            return OUTSIDE;
        }
        int left = waysLeft();
        int then = offerFor(v, 0, left & ~plan.rules[t]);
        return then - offerFor(v, 0, left) - plan.costs[t] + WORTH_BASE;
    }

    public int secret(int n, int q) {
        if (!within(n, 0, MOST_TELLERS) || !within(q, 0, HUNDRED)) {
            return OUTSIDE;
        }
        int odds = MILLION;
        for (int i = 0; i < n; i++) {
            odds = odds * (HUNDRED - q) / HUNDRED;
        }
        return odds;
    }

    // ---- what is heard

    public int hear(int n, boolean got) {
        if (!within(n, 0, MOST_DAYS_AGO)) {
            return OUTSIDE;
        }
        if (!plan.stands()) {
            return NOT;
        }
        return hearsay.add(n, got) ? hearsay.count : FULL;
    }

    public int paid() {
        return plan.stands() ? hearsay.fitting(plan.every) : NOT;
    }

    public int ask() {
        return plan.stands() ? hearsay.bestQuestion(plan.every) : NOT;
    }

    public int write(int ways) {
        if (!plan.hasWays(ways)) {
            return UNKNOWN;
        }
        return book.add(ways) ? book.count : FULL;
    }

    public int tear() {
        int had = hearsay.count + book.count;
        hearsay.count = 0;
        book.count = 0;
        return had;
    }

    public int judge() {
        return book.firstOtherThan(waysLeft());
    }

    // ---- draws, images

    public int seed(int v) {
        if (v < 0) {
            return OUTSIDE;
        }
        int was = draws.state;
        draws.state = v;
        return was;
    }

    public int keep(int i) {
        if (!within(i, 0, IMAGES - 1)) {
            return UNKNOWN;
        }
        images[i].kept = true;
        images[i].affairs.copyFrom(now);
        images[i].drawState = draws.state;
        history.forget();
        return 1;
    }

    public int goBack(int i) {
        if (!within(i, 0, IMAGES - 1)) {
            return UNKNOWN;
        }
        if (!images[i].kept) {
            return NOT;
        }
        now.copyFrom(images[i].affairs);
        draws.state = images[i].drawState;
        history.forget();
        return 1;
    }

    // ---- within

    private static boolean within(int number, int least, int most) {
        return number >= least && number <= most;
    }

    private static boolean has(int set, int k) {
        return (set >> k & 1) == 1;
    }

    private void beginAnew() {
        now.begin(plan);
        history.forget();
        hearsay.count = 0;
        book.count = 0;
        for (int i = 0; i < IMAGES; i++) {
            images[i].kept = false;
        }
    }

    private int waysLeft() {
        return plan.leftBy(now.made);
    }

    private int spent() {
        int sum = plan.costOf(now.made);
        for (int s = 0; s < plan.servants; s++) {
            sum += now.got[s];
        }
        return Math.min(sum, MOST_COUNTED);
    }

    /** What day() and drift() refuse, or 0. */
    private int refusalOfDays(int n) {
        if (!within(n, 1, MOST_DAYS_AT_ONCE)) {
            return OUTSIDE;
        }
        if (!plan.stands()) {
            return NOT;
        }
        return now.days > LAST_DAY_TO_START ? FULL : 0;
    }

    private void doByDraw() {
        int drawn = draws.draw(8);
        if (drawn == 0 && plan.tests > 0) {
            int t = draws.draw(plan.tests);
            if (now.canMake(plan, t)) {
                now.made |= 1 << t;
            }
        } else if (drawn == 1 && plan.servants > 0) {
            int s = draws.draw(plan.servants);
            now.setHired(s, !has(now.hired, s));
        } else if (drawn == 2) {
            now.sealed = !now.sealed;
        }
    }

    private int liarsBy(int w) {
        int liars = 0;
        for (int s = 0; s < plan.servants; s++) {
            if (!has(now.says[s], w)) {
                liars |= 1 << s;
            }
        }
        return liars;
    }

    private int wayOfFewestLiars() {
        int left = waysLeft();
        int best = 0;
        int fewest = MOST_SERVANTS + 1;
        for (int w = 0; w < plan.ways; w++) {
            int count = Integer.bitCount(liarsBy(w));
            if (has(left, w) && count < fewest) {
                best = w;
                fewest = count;
            }
        }
        return best;
    }

    private int cheapestTests(int ways, int secrets) {
        int best = NONE;
        int least = 0;
        for (int tests = 0; tests < 1 << plan.tests; tests++) {
            boolean rulesOut = (ways & plan.leftBy(tests)) == 0;
            boolean hides = (plan.secretsOf(tests) & ~secrets) == 0;
            int cost = costYet(tests);
            if (rulesOut && hides && (best == NONE || cost < least)) {
                best = tests;
                least = cost;
            }
        }
        return best;
    }

    private int costYet(int tests) {
        return plan.costOf(tests & ~now.made);
    }

    private int offerFor(int v, int c, int left) {
        long whole = (long) v * plan.beliefIn(0, left) / MILLION;
        return Math.max((int) whole - c, 0);
    }

    /** What the text tells; without ways there is no castle. */
    private static final class Castle {
        int ways = 0;
        final int[] likely = new int[MOST_WAYS];
        int tests = 0;
        final int[] rules = new int[MOST_TESTS];
        final int[] shows = new int[MOST_TESTS];
        final int[] costs = new int[MOST_TESTS];
        int servants = 0;
        final int[] says = new int[MOST_SERVANTS];
        final int[] prices = new int[MOST_SERVANTS];
        int pay = 0;
        int every = 0;

        void clear() {
            ways = 0;
            tests = 0;
            servants = 0;
            pay = 0;
            every = 0;
        }

        boolean stands() {
            return ways > 0;
        }

        boolean hasWay(int w) {
            return within(w, 0, ways - 1);
        }

        boolean hasTest(int t) {
            return within(t, 0, tests - 1);
        }

        boolean hasServant(int s) {
            return within(s, 0, servants - 1);
        }

        boolean hasWays(int set) {
            return (set & ~allWays()) == 0;
        }

        int allWays() {
            return (1 << ways) - 1;
        }

        int leftBy(int made) {
            int left = allWays();
            for (int t = 0; t < tests; t++) {
                if (has(made, t)) {
                    left &= ~rules[t];
                }
            }
            return left;
        }

        int secretsOf(int made) {
            int secrets = 0;
            for (int t = 0; t < tests; t++) {
                if (has(made, t)) {
                    secrets |= shows[t];
                }
            }
            return secrets;
        }

        int costOf(int made) {
            int cost = 0;
            for (int t = 0; t < tests; t++) {
                if (has(made, t)) {
                    cost += costs[t];
                }
            }
            return cost;
        }

        int likelyOf(int set) {
            int sum = 0;
            for (int w = 0; w < ways; w++) {
                if (has(set, w)) {
                    sum += likely[w];
                }
            }
            return sum;
        }

        int beliefIn(int w, int left) {
            int all = likelyOf(left);
            if (!hasWay(w) || !has(left, w) || all <= 0) {
                return 0;
            }
            return (int) ((long) MILLION * likely[w] / all);
        }
    }

    /** The text, and how it is read into a castle, up to its first fault. */
    private static final class Reader {
        static final int NO_FAULT = 0;
        static final int MISPLACED = 1;
        static final int OUT_OF_BOUNDS = 2;
        static final int ONE_TOO_MANY = 3;
        static final int END = -1;
        static final int BLANK = 32;
        static final int MOST_FIGURES = 3;
        static final int ALL_WAYS = 255;

        private final int[] letters = new int[MOST_LETTERS];
        int count = 0;
        private int length = 0;
        private int at = 0;
        private Castle into = new Castle();
        private boolean payTold = false;
        private int number = 0;
        private int numberPlace = 0;
        private int kind = NO_FAULT;
        int place = NONE;

        boolean add(int letter) {
            if (count >= MOST_LETTERS) {
                return false;
            }
            letters[count] = letter;
            count++;
            return true;
        }

        /** The number of the fault, whose place is kept; a text of blanks alone leaves the castle cleared. */
        int readText() {
            length = count;
            count = 0;
            at = 0;
            payTold = false;
            kind = NO_FAULT;
            place = NONE;
            into.clear();
            skipBlanks();
            if (at >= length) {
                return NO_FAULT;
            }
            into.pay = 1;
            into.every = 1;
            boolean fine = readWays();
            // Each clause takes a letter at least, so there are no more clauses than letters.
            for (int i = 0; i < MOST_LETTERS && fine && at < length; i++) {
                fine = readClause();
            }
            return kind;
        }

        /** Hands out the castle that was read; the old one is room for the next. */
        Castle exchange(Castle old) {
            Castle read = into;
            into = old;
            return read;
        }

        private boolean readWays() {
            if (!take('w') || !readWay() || !take(',') || !readWay()) {
                return false;
            }
            for (int i = 2; i < MOST_WAYS && letter() == ','; i++) {
                if (!take(',') || !readWay()) {
                    return false;
                }
            }
            return take(';');
        }

        private boolean readWay() {
            if (into.ways >= MOST_WAYS) {
                return refuse(MISPLACED, at);
            }
            if (!readNumber(1, 999)) {
                return false;
            }
            into.likely[into.ways] = number;
            into.ways++;
            return true;
        }

        private boolean readClause() {
            switch (letter()) {
                case 'w': return refuse(ONE_TOO_MANY, at);
                case 't': return readTest();
                case 's': return readServant();
                case 'p': return readPay();
                default: return refuse(MISPLACED, at);
            }
        }

        private boolean readTest() {
            int t = into.tests;
            if (t >= MOST_TESTS) {
                return refuse(ONE_TOO_MANY, at);
            }
            if (!take('t') || !readWaySet(0)) {
                return false;
            }
            if (has(number, 0)) {
                return refuse(OUT_OF_BOUNDS, numberPlace);
            }
            into.rules[t] = number;
            if (!readNumber(0, ALL_SECRETS)) {
                return false;
            }
            into.shows[t] = number;
            if (!readNumber(0, 999)) {
                return false;
            }
            into.costs[t] = number;
            into.tests = t + 1;
            return take(';');
        }

        private boolean readServant() {
            int s = into.servants;
            if (s >= MOST_SERVANTS) {
                return refuse(ONE_TOO_MANY, at);
            }
            if (!take('s') || !readWaySet(1)) {
                return false;
            }
            into.says[s] = number;
            if (!readNumber(0, 999)) {
                return false;
            }
            into.prices[s] = number;
            into.servants = s + 1;
            return take(';');
        }

        private boolean readPay() {
            if (payTold) {
                return refuse(ONE_TOO_MANY, at);
            }
            payTold = true;
            if (!take('p') || !readNumber(1, 99)) {
                return false;
            }
            into.pay = number;
            if (!readNumber(1, 30)) {
                return false;
            }
            into.every = number;
            return take(';');
        }

        private boolean readWaySet(int least) {
            if (!readNumber(least, ALL_WAYS)) {
                return false;
            }
            return into.hasWays(number) || refuse(OUT_OF_BOUNDS, numberPlace);
        }

        private boolean readNumber(int least, int most) {
            if (!isFigure(letter())) {
                return refuse(MISPLACED, at);
            }
            numberPlace = at;
            number = 0;
            while (at < length && isFigure(letters[at])) {
                // Past the fourth figure the fault is sure, and the number must not run over.
                if (at - numberPlace <= MOST_FIGURES) {
                    number = number * 10 + letters[at] - '0';
                }
                at++;
            }
            if (at - numberPlace > MOST_FIGURES || !within(number, least, most)) {
                return refuse(OUT_OF_BOUNDS, numberPlace);
            }
            skipBlanks();
            return true;
        }

        private boolean take(int word) {
            if (letter() != word) {
                return refuse(MISPLACED, at);
            }
            at++;
            skipBlanks();
            return true;
        }

        private int letter() {
            return at < length ? letters[at] : END;
        }

        private void skipBlanks() {
            while (at < length && letters[at] == BLANK) {
                at++;
            }
        }

        private static boolean isFigure(int letter) {
            return letter >= '0' && letter <= '9';
        }

        private boolean refuse(int faultKind, int faultAt) {
            kind = faultKind;
            place = faultAt;
            return false;
        }
    }

    /** All that is done and may be undone. */
    private static final class Affairs {
        int days = 0;
        int turned = 0;
        boolean turns = false;
        boolean sealed = false;
        int made = 0;
        int hired = 0;
        final int[] says = new int[MOST_SERVANTS];
        final int[] got = new int[MOST_SERVANTS];
        final int[] since = new int[MOST_SERVANTS];

        void begin(Castle castle) {
            days = 0;
            turned = 0;
            turns = castle.stands();
            sealed = castle.stands();
            made = 0;
            hired = 0;
            for (int s = 0; s < MOST_SERVANTS; s++) {
                says[s] = castle.says[s];
                got[s] = 0;
                since[s] = 0;
            }
        }

        void copyFrom(Affairs other) {
            days = other.days;
            turned = other.turned;
            turns = other.turns;
            sealed = other.sealed;
            made = other.made;
            hired = other.hired;
            for (int s = 0; s < MOST_SERVANTS; s++) {
                says[s] = other.says[s];
                got[s] = other.got[s];
                since[s] = other.since[s];
            }
        }

        void passDay(Castle castle) {
            days++;
            if (turns) {
                turned++;
            }
            for (int s = 0; s < castle.servants; s++) {
                if (!has(hired, s)) {
                    continue;
                }
                since[s]++;
                if (since[s] >= castle.every) {
                    give(s, castle.pay);
                    since[s] = 0;
                }
            }
        }

        boolean canMake(Castle castle, int t) {
            return turns && castle.hasTest(t) && !has(made, t) && (!sealed || castle.shows[t] == 0);
        }

        void setHired(int s, boolean is) {
            if (!within(s, 0, MOST_SERVANTS - 1)) {
                return;
            }
            hired = is ? hired | 1 << s : hired & ~(1 << s);
            since[s] = 0;
        }

        void give(int s, int much) {
            if (!within(s, 0, MOST_SERVANTS - 1)) {
                return;
            }
            got[s] = Math.min(got[s] + much, MOST_COUNTED);
        }
    }

    /** A ring of what was so ahead of the latest deeds. */
    private static final class History {
        private final Affairs[] past = new Affairs[MOST_UNDONE];
        private int end = 0;
        int count = 0;

        History() {
            for (int i = 0; i < MOST_UNDONE; i++) {
                past[i] = new Affairs();
            }
        }

        void remember(Affairs affairs) {
            past[end].copyFrom(affairs);
            end = (end + 1) % MOST_UNDONE;
            count = Math.min(count + 1, MOST_UNDONE);
        }

        void recall(Affairs into) {
            if (count == 0) {
                return;
            }
            end = (end + MOST_UNDONE - 1) % MOST_UNDONE;
            count--;
            into.copyFrom(past[end]);
        }

        void forget() {
            count = 0;
        }
    }

    /** What is heard of a servant's money. */
    private static final class Hearsay {
        private final int[] daysAgo = new int[MOST_HEARD];
        private final boolean[] came = new boolean[MOST_HEARD];
        int count = 0;

        boolean add(int n, boolean got) {
            if (count >= MOST_HEARD) {
                return false;
            }
            daysAgo[count] = n;
            came[count] = got;
            count++;
            return true;
        }

        int fitting(int every) {
            int set = 0;
            for (int r = 0; r < every; r++) {
                if (fits(r, every)) {
                    set |= 1 << r;
                }
            }
            return set;
        }

        private boolean fits(int r, int every) {
            for (int i = 0; i < count; i++) {
                if (gotMoney(daysAgo[i], r, every) != came[i]) {
                    return false;
                }
            }
            return true;
        }

        private static boolean gotMoney(int n, int r, int every) {
            return every > 0 && n % every == r;
        }

        int bestQuestion(int every) {
            int set = fitting(every);
            int best = NONE;
            // A question whose greater part is all of them parts nothing.
            int least = Integer.bitCount(set);
            for (int n = 0; n <= MOST_DAYS_AGO; n++) {
                int part = greaterPart(set, n, every);
                if (part < least) {
                    best = n;
                    least = part;
                }
            }
            return best;
        }

        private static int greaterPart(int set, int n, int every) {
            int yes = 0;
            for (int r = 0; r < every; r++) {
                if (has(set, r) && gotMoney(n, r, every)) {
                    yes++;
                }
            }
            return Math.max(yes, Integer.bitCount(set) - yes);
        }
    }

    /** Which ways were told to be left, entry by entry. */
    private static final class Book {
        private final int[] entries = new int[MOST_ENTRIES];
        int count = 0;

        boolean add(int ways) {
            if (count >= MOST_ENTRIES) {
                return false;
            }
            entries[count] = ways;
            count++;
            return true;
        }

        int firstOtherThan(int left) {
            for (int i = 0; i < count; i++) {
                if (entries[i] != left) {
                    return i;
                }
            }
            return NONE;
        }
    }

    private static final class Draws {
        private static final long FACTOR = 1103515245L;
        private static final long STEP = 12345L;
        private static final long BOUND = 2147483648L;

        int state = 0;

        int draw(int n) {
            state = (int) ((state * FACTOR + STEP) % BOUND);
            return n > 0 ? state / 65536 % n : 0;
        }
    }

    private static final class Image {
        boolean kept = false;
        final Affairs affairs = new Affairs();
        int drawState = 0;
    }
}
