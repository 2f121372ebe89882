/**
 * One more story: a child asks for one thing after the other, parents give it or do not,
 * until she sleeps, or it comes to tears.
 *
 * What is only asked for runs ahead on a second Home (the Trial's), which is made once and
 * used again: so it changes nothing, and makes no objects.
 */
public final class MoreStory {
    public static final int NONE = -1, BAD = -2, STATE = -3, FULL = -4;
    public static final long NO = Long.MIN_VALUE;

    private static final int NEVER = -5, MANY = -9, FAULT = -10;
    private static final int NOTHING = -11, CAST = -12, PLACE = -13, SIZE = -14;

    private static final int THINGS = 7, PARENTS = 4, KINDS = 7, PARTS = 4, HOUSES = 6;
    private static final int HEARD = 8, BOOKED = 12, ASKS = 60, EVENINGS = 10, LAST_EVENING = 9999;
    private static final int MOST_HABIT = 999, MOST_LATE = 99, MOST_COUPONS = 20, ORDERED = 5, ORDERS = 120;
    private static final int SIGNS = 100, CLAUSES = 10, DEPTH = 4, TRACED = 20, UNCOUNTED = 1000;
    private static final int TAPES = 6, ITEMS = 60, LONGS = 3, SORTS = 5, ENDED = 100;

    private static final int GOES_ON = 0, SLEEPS = 1, TEARS = 2;
    private static final int ANY = 0, SOFT = 1, STRICT = 2, TIRED = 3, MELTING = 4, FAIR = 5, TOLD = 6;
    private static final int CALM = 0, FUSS = 1, LATE = 2, DEEP = 3;
    private static final int TEST = 0, NOT = 1, AND = 2, OR = 3;
    private static final int LATE_WITHOUT = 60, DEEP_WITHOUT = 30, CALM_WITHOUT = 4, FUSS_WITHOUT = 2;

    private static final String WORDS = "calmfusslatedeep", LETTERS = "pktcnh", COMPARED = "<=>", DIGITS = "0123456789";

    private static final int[] ABOVE = {-1, ANY, ANY, ANY, SOFT, STRICT, TIRED};

    private final Home now, kept;
    private final Trial trial;
    private final Reader reader;
    private final long[][] tapes;
    private final int[] sorts, sizes, trace, tried, best;
    private int housed;
    private boolean imaged;

    public MoreStory() {
        now = new Home();
        kept = new Home();
        trial = new Trial();
        reader = new Reader();
        tapes = new long[TAPES][ITEMS];
        sorts = new int[TAPES];
        sizes = new int[TAPES];
        for (int i = 0; i < TAPES; i++) sorts[i] = -1;
        trace = new int[TRACED + 1];
        tried = new int[ORDERED];
        best = new int[ORDERED];
    }

    // ---- things, parents, houses

    public int thing(int minutes, int sweet) {
        if (minutes < 1 || minutes > 20 || sweet < 0 || sweet > 9) return BAD;
        if (now.things >= THINGS) return FULL;
        int t = now.things++;
        now.minutes[t] = minutes;
        now.sweet[t] = sweet;
        now.habit[t] = 0;
        return t;
    }

    public int parent(int kind, int v) {
        if (kind < 0 || kind >= KINDS) return NONE;
        if (v < 0 || v > 9) return BAD;
        if (now.parents >= PARENTS) return FULL;
        int i = now.parents++;
        now.persons[i] = born(kind, i, v);
        for (int part = 0; part < PARTS; part++) now.rows[PARTS * i + part] = 1;
        return i;
    }

    private Parent born(int kind, int i, int v) {
        switch (kind) {
            case SOFT: return new Soft(kind, i, v, trace);
            case STRICT: return new Strict(kind, i, v, trace);
            case TIRED: return new Tired(kind, i, v, trace);
            case MELTING: return new Melting(kind, i, v, trace);
            case FAIR: return new Fair(kind, i, v, trace);
            case TOLD: return new Told(kind, i, v, trace);
            default: return new Parent(kind, i, v, trace);
        }
    }

    public int at(int thing, int what) {
        if (!now.has(thing)) return NONE;
        switch (what) {
            case 0: return now.minutes[thing];
            case 1: return now.sweet[thing];
            case 2: return now.habit[thing];
            default: return NONE;
        }
    }

    public int of(int parent, int what) {
        Parent p = now.person(parent);
        if (p == null || what < 0 || what >= 40) return NONE;
        if (what == 0) return p.kind;
        if (what == 1) return p.v;
        int thing = what % 10;
        if (what < 10 || !now.has(thing)) return NONE;
        if (what < 20) return p.grants(now, thing) ? 1 : 0;
        return now.moved(p, thing, what < 30);
    }

    public int habit(int thing, int n) {
        if (!now.has(thing)) return NONE;
        if (n < 0 || n > MOST_HABIT) return BAD;
        int was = now.habit[thing];
        now.habit[thing] = n;
        return was;
    }

    public int row(int parent, int part, int n) {
        Parent p = now.person(parent);
        if (p == null || part < 0 || part >= PARTS) return NONE;
        if (n < 0 || n > 1) return BAD;
        if (p.kind != TOLD) return STATE;
        int was = now.rows[PARTS * parent + part];
        now.rows[PARTS * parent + part] = n;
        return was;
    }

    public int feed(int sign) {
        if (sign < 0 || sign > 127) return BAD;
        if (reader.length >= SIGNS) return FULL;
        reader.text[reader.length++] = sign;
        return reader.length;
    }

    public int house() {
        if (housed >= HOUSES) return FULL;
        boolean read = reader.reads();
        reader.length = 0;
        if (!read) return FAULT - reader.at;
        now.hold(new House(reader));
        return housed++;
    }

    public int told(int what) {
        switch (what) {
            case 0: return now.evening;
            case 1: return now.clock;
            case 2: return now.sleepy;
            case 3: return now.nos;
            case 4: return now.given;
            case 5: return now.one;
            case 6: return now.late;
            case 7: return now.deep;
            case 8: return now.how();
            default: return NONE;
        }
    }

    // ---- asks, nights

    public int ask(int parent) {
        Parent p = now.person(parent);
        if (p == null) return NONE;
        if (now.how() != GOES_ON || !now.has(now.one)) return STATE;
        boolean gives = p.grants(now, now.one);
        now.pass(p, now.one, gives);
        now.one = now.one + 1 < now.things ? now.one + 1 : 0;
        return gives ? 1 : 0;
    }

    public int night() {
        if (now.evening >= LAST_EVENING) return STATE;
        int was = now.how();
        now.sleepOver();
        return was;
    }

    public int will(int thing) {
        if (!now.has(thing)) return NONE;
        int bits = 0;
        for (int i = 0; i < now.parents; i++) {
            Parent p = now.person(i);
            if (p != null && p.grants(now, thing)) bits |= 1 << i;
        }
        return bits;
    }

    public int on(int parent, int n, int what) {
        Parent p = now.person(parent);
        if (p == null || what < 0 || what > 4) return NONE;
        if (n < 0 || n > ASKS) return BAD;
        trial.start(now);
        trial.run(p, p, n);
        switch (what) {
            case 0: return trial.home.clock;
            case 1: return trial.home.sleepy;
            case 2: return trial.home.given;
            case 3: return trial.asks;
            default: return trial.home.how();
        }
    }

    // ---- what is best

    public int with(int what) {
        if (what < 0 || what > 1) return NONE;
        int who = NEVER, least = NEVER;
        for (int i = 0; i < now.parents; i++) {
            Parent p = now.person(i);
            trial.start(now);
            int clock = trial.sleepsAt(p, p);
            if (earlier(clock, least)) {
                who = i;
                least = clock;
            }
        }
        return what == 0 ? who : least;
    }

    /** NEVER is below every clock, so it is asked for by itself. */
    private static boolean earlier(int clock, int least) {
        return clock != NEVER && (least == NEVER || clock < least);
    }

    public int both(int one, int other) {
        Parent first = now.person(one), second = now.person(other);
        if (first == null || second == null) return NONE;
        trial.start(now);
        return trial.sleepsAt(first, second);
    }

    public int limit(int parent, int what) {
        Parent p = now.person(parent);
        if (p == null || what < 0 || what > 1) return NONE;
        int limit = NEVER, least = NEVER;
        for (int late = 1; late <= MOST_LATE; late++) {
            trial.start(now);
            trial.home.late = late;
            int clock = trial.sleepsAt(p, p);
            if (earlier(clock, least)) {
                limit = late;
                least = clock;
            }
        }
        return what == 0 ? limit : least;
    }

    public int without(int parent) {
        Parent p = now.person(parent);
        if (p == null) return NONE;
        trial.start(now);
        int least = trial.sleepsAt(p, p), thing = NEVER;
        for (int t = 0; t < now.things; t++) {
            trial.start(now);
            trial.skip(t);
            int clock = trial.sleepsAt(p, p);
            if (earlier(clock, least)) {
                thing = t;
                least = clock;
            }
        }
        return thing;
    }

    public int order(int parent, int k) {
        Parent p = now.person(parent);
        if (p == null || k < -1 || k >= ORDERED) return NONE;
        if (now.things > ORDERED) return MANY;
        int most = bestOrder(p);
        if (k < 0) return most;
        return k < now.things ? best[k] : NEVER;
    }

    /** Leaves the row in best; the rows are tried in their order, so the first of several stays. */
    private int bestOrder(Parent p) {
        int n = now.things, most = -1;
        for (int i = 0; i < n && i < ORDERED; i++) tried[i] = i;
        boolean more = true;
        for (int i = 0; i < ORDERS && more; i++) {
            trial.start(now);
            trial.afresh(tried);
            trial.run(p, p, ASKS);
            if (trial.minutes > most) {
                most = trial.minutes;
                System.arraycopy(tried, 0, best, 0, ORDERED);
            }
            more = nextOrder(tried, n);
        }
        return most;
    }

    private static boolean nextOrder(int[] row, int n) {
        if (n > row.length) return false;
        int i = n - 2;
        while (i >= 0 && row[i] > row[i + 1]) i--;
        if (i < 0) return false;
        int j = n - 1;
        while (j > i && row[j] < row[i]) j--;
        swap(row, i, j);
        for (int low = i + 1, high = n - 1; low < high; low++, high--) swap(row, low, high);
        return true;
    }

    private static void swap(int[] row, int i, int j) {
        if (i < 0 || j < 0 || i >= row.length || j >= row.length) return;
        int was = row[i];
        row[i] = row[j];
        row[j] = was;
    }

    public int coupons(int parent) {
        Parent p = now.person(parent);
        if (p == null) return NONE;
        for (int n = 0; n <= MOST_COUPONS; n++) {
            trial.start(now);
            trial.coupons = n;
            if (trial.sleepsAt(p, p) != NEVER) return n;
        }
        return NEVER;
    }

    public int evenings(int parent, int n, int what) {
        Parent p = now.person(parent);
        if (p == null || what < 0 || what > 2) return NONE;
        if (n < 1 || n > EVENINGS) return BAD;
        int clock = 0, tears = 0;
        trial.start(now);
        for (int i = 0; i < n; i++) {
            trial.run(p, p, ASKS);
            clock = trial.home.clock;
            if (trial.home.how() == TEARS) tears++;
            trial.home.sleepOver();
            trial.place = 0;
        }
        if (what == 0) return clock;
        return what == 1 ? tears : trial.home.habits();
    }

    // ---- heard, odds, books

    public int hear(boolean given) {
        if (now.heard >= HEARD) return FULL;
        now.said[now.heard++] = given;
        return now.heard;
    }

    public int hush() {
        int were = now.heard;
        now.heard = 0;
        return were;
    }

    public int who() {
        int bits = 0;
        for (int i = 0; i < now.parents; i++) {
            if (makesSo(now.person(i))) bits |= 1 << i;
        }
        return bits;
    }

    private boolean makesSo(Parent p) {
        trial.start(now);
        for (int i = 0; i < now.heard && i < HEARD; i++) {
            if (!trial.goesOn() || trial.step(p) != now.said[i]) return false;
        }
        return true;
    }

    public long odds(int parent, int part) {
        Parent p = now.person(parent);
        if (p == null || now.things == 0) return NO;
        int sleeps = 0;
        for (int t = 0; t < now.things; t++) {
            trial.start(now);
            trial.place = t;
            if (trial.sleepsAt(p, p) != NEVER) sleeps++;
        }
        return lowest(sleeps, now.things, part);
    }

    public long mean(int part) {
        int clocks = 0;
        for (int i = 0; i < now.parents; i++) {
            Parent p = now.person(i);
            trial.start(now);
            trial.run(p, p, ASKS);
            clocks += trial.home.clock;
        }
        return lowest(clocks, now.parents, part);
    }

    /** The greatest divisor that both have is looked for from below's on: below is 7 at most. */
    private static long lowest(int above, int below, int part) {
        if (below <= 0 || part < 0 || part > 1) return NO;
        int divisor = 1;
        for (int d = below; d > 1 && divisor == 1; d--) {
            if (above % d == 0 && below % d == 0) divisor = d;
        }
        return (part == 0 ? above : below) / divisor;
    }

    public int book(int parent) {
        if (parent == -1) {
            now.booked = 0;
            return 0;
        }
        if (now.person(parent) == null) return NONE;
        if (now.booked >= BOOKED) return FULL;
        now.book[now.booked++] = parent;
        return now.booked;
    }

    public int looked() {
        trial.start(now);
        for (int i = 0; i < now.booked && i < BOOKED; i++) {
            if (!trial.goesOn() || !trial.step(now.person(now.book[i]))) return i;
        }
        return NEVER;
    }

    // ---- judging, the image, acts, tapes

    public int judge(int tape, int i) {
        if (tape < 0 || tape >= TAPES) return NONE;
        if (sorts[tape] >= 0 && sorts[tape] != LONGS) return CAST;
        for (int t = 0; t < now.things; t++) {
            if (!holds(tape, (long) i + t)) return ENDED + t;
            if (tapes[tape][i + t] != now.habit[t]) return t;
        }
        return NEVER;
    }

    public int image() {
        kept.copy(now);
        imaged = true;
        return now.parents;
    }

    public int undo() {
        if (!imaged) return STATE;
        now.copy(kept);
        return now.parents;
    }

    public int act(int parent, int act, int x) {
        trace[TRACED] = 0;
        Parent p = now.person(parent);
        if (p == null) return 0;
        switch (act) {
            case 0: return p.hears(x);
            case 1: return p.gives(x);
            case 2: return p.tells(x);
            default: return 0;
        }
    }

    public int trace(int i) {
        if (i < 0 || i >= TRACED || i >= trace[TRACED]) return NONE;
        return trace[i];
    }

    public int taken(int parent, int k) {
        if (k < 0 || k >= KINDS) return BAD;
        Parent p = now.person(parent);
        if (p == null) return NOTHING;
        int above = p.kind;
        for (int i = 0; i < KINDS && above >= 0 && above < KINDS; i++) {
            if (above == k) return p.kind;
            above = ABOVE[above];
        }
        return CAST;
    }

    public int count(int what) {
        switch (what) {
            case 0: return now.parents;
            case 1: return now.things;
            case 2: return housed;
            case 3: return now.heard;
            case 4: return now.booked;
            case 5: return reader.length;
            case 6: return trace[TRACED];
            default: return BAD;
        }
    }

    public int tape(int tape, int sort, int n) {
        if (tape < 0 || tape >= TAPES) return NONE;
        if (sort < -1 || sort >= SORTS) return BAD;
        if (sort >= 0 && n > ITEMS) return BAD;
        if (sort >= 0 && n < 0) return SIZE;
        sorts[tape] = sort;
        sizes[tape] = sort < 0 ? 0 : n;
        for (int i = 0; i < ITEMS; i++) tapes[tape][i] = 0;
        return 1;
    }

    /** Whether a tape has such a place; one that holds nothing has none. The place is a long, as sums of places are. */
    private boolean holds(int tape, long i) {
        return tape >= 0 && tape < TAPES && sorts[tape] >= 0 && i >= 0 && i < sizes[tape];
    }

    public int item(int tape, int i, long v) {
        if (tape < 0 || tape >= TAPES) return NONE;
        if (sorts[tape] < 0) return NOTHING;
        if (!holds(tape, i)) return PLACE;
        tapes[tape][i] = cut(sorts[tape], v);
        return 1;
    }

    private static long cut(int sort, long v) {
        switch (sort) {
            case 0: return (byte) v;
            case 1: return (short) v;
            case 2: return (int) v;
            case LONGS: return v;
            default: return v != 0 ? 1 : 0;
        }
    }

    public long read(int tape, int i) {
        return holds(tape, i) ? tapes[tape][i] : NO;
    }

    public int shift(int tape, int i, int other, int j, int n) {
        if (tape < 0 || tape >= TAPES || other < 0 || other >= TAPES) return NONE;
        if (sorts[tape] < 0 || sorts[other] < 0) return NOTHING;
        if (sorts[tape] != sorts[other]) return CAST;
        if (n < 0 || i < 0 || j < 0) return PLACE;
        if ((long) i + n > sizes[tape] || (long) j + n > sizes[other]) return PLACE;
        System.arraycopy(tapes[tape], i, tapes[other], j, n);
        return n;
    }

    /** How all is: what THE IMAGE keeps. */
    private static final class Home {
        final int[] minutes = new int[THINGS], sweet = new int[THINGS], habit = new int[THINGS];
        final Parent[] persons = new Parent[PARENTS];
        final int[] rows = new int[PARENTS * PARTS];
        final boolean[] said = new boolean[HEARD];
        final int[] book = new int[BOOKED];
        int things, parents, heard, booked;
        int clock, sleepy, nos, given, one, evening;
        House house;
        int late = LATE_WITHOUT, deep = DEEP_WITHOUT;

        void copy(Home from) {
            System.arraycopy(from.minutes, 0, minutes, 0, THINGS);
            System.arraycopy(from.sweet, 0, sweet, 0, THINGS);
            System.arraycopy(from.habit, 0, habit, 0, THINGS);
            for (int i = 0; i < PARENTS; i++) persons[i] = from.persons[i];
            System.arraycopy(from.rows, 0, rows, 0, PARENTS * PARTS);
            for (int i = 0; i < HEARD; i++) said[i] = from.said[i];
            System.arraycopy(from.book, 0, book, 0, BOOKED);
            things = from.things;
            parents = from.parents;
            heard = from.heard;
            booked = from.booked;
            clock = from.clock;
            sleepy = from.sleepy;
            nos = from.nos;
            given = from.given;
            one = from.one;
            evening = from.evening;
            house = from.house;
            late = from.late;
            deep = from.deep;
        }

        boolean has(int thing) {
            return thing >= 0 && thing < things && thing < THINGS;
        }

        Parent person(int i) {
            return i >= 0 && i < parents && i < PARENTS ? persons[i] : null;
        }

        void hold(House newest) {
            house = newest;
            late = newest.last(LATE, LATE_WITHOUT);
            deep = newest.last(DEEP, DEEP_WITHOUT);
        }

        int how() {
            if (sleepy >= deep) return SLEEPS;
            return clock >= late ? TEARS : GOES_ON;
        }

        /** By how much SLEEPY would move now: CALM, or FUSS. */
        int moved(Parent p, int thing, boolean calm) {
            int without = calm ? CALM_WITHOUT : FUSS_WITHOUT;
            if (house == null || p == null || !has(thing)) return without;
            house.look(p, thing, this);
            return house.sum(calm ? CALM : FUSS, without);
        }

        /** An ASK but for ONE, which a Trial goes through in rows of its own. */
        void pass(Parent p, int thing, boolean gives) {
            if (!has(thing)) return;
            int moved = moved(p, thing, gives);
            if (gives) {
                clock += minutes[thing];
                sleepy += moved;
                nos = 0;
                given++;
                habit[thing] = Math.min(habit[thing] + 1, MOST_HABIT);
            } else {
                clock++;
                sleepy = Math.max(sleepy - moved, 0);
                nos++;
            }
        }

        void sleepOver() {
            clock = 0;
            sleepy = 0;
            nos = 0;
            given = 0;
            one = 0;
            evening++;
        }

        int habits() {
            int all = 0;
            for (int t = 0; t < things && t < THINGS; t++) all += habit[t];
            return all;
        }
    }

    /** Goes on from how all is, on a Home of its own, with THINGS asked for in a row of its own. */
    private static final class Trial {
        final Home home = new Home();
        final int[] turn = new int[THINGS];
        int turns, place, coupons, asks, minutes;

        void start(Home now) {
            home.copy(now);
            turns = Math.min(now.things, THINGS);
            for (int t = 0; t < turns; t++) turn[t] = t;
            place = now.one;
            coupons = UNCOUNTED;
            asks = 0;
            minutes = 0;
        }

        /** The row closes up over the THING, so the next other one stands in its place. */
        void skip(int thing) {
            if (thing < 0 || thing >= turns) return;
            turns--;
            for (int t = thing; t < turns; t++) turn[t] = turn[t + 1];
            if (place > thing) place--;
            if (place >= turns) place = 0;
        }

        void afresh(int[] row) {
            for (int i = 0; i < turns && i < row.length; i++) turn[i] = row[i];
            place = 0;
            home.clock = 0;
            home.sleepy = 0;
            home.nos = 0;
            home.given = 0;
        }

        boolean goesOn() {
            return place >= 0 && place < turns && turns <= THINGS && home.how() == GOES_ON;
        }

        boolean step(Parent p) {
            if (p == null || !goesOn()) return false;
            int thing = turn[place];
            boolean gives = coupons > 0 && p.grants(home, thing);
            home.pass(p, thing, gives);
            place = place + 1 < turns ? place + 1 : 0;
            asks++;
            if (gives && home.has(thing)) {
                coupons--;
                minutes += home.minutes[thing];
            }
            return gives;
        }

        void run(Parent first, Parent second, int n) {
            for (int i = 0; i < n && goesOn(); i++) step(i % 2 == 0 ? first : second);
        }

        int sleepsAt(Parent first, Parent second) {
            run(first, second, ASKS);
            return home.how() == SLEEPS ? home.clock : NEVER;
        }
    }

    /** KIND 0, and above all others. The last item of the log counts the bodies that ran. */
    private static class Parent {
        final int kind, i, v;
        final int[] log;

        Parent(int kind, int i, int v, int[] log) {
            this.kind = kind;
            this.i = i;
            this.v = v;
            this.log = log;
        }

        final void begins(int body) {
            int ran = log[TRACED]++;
            if (ran >= 0 && ran < TRACED) log[ran] = body;
        }

        boolean grants(Home home, int thing) {
            return home.has(thing) && home.clock + home.minutes[thing] < home.late;
        }

        /** All others end here: it writes its own number down, lest calls go deeper than the language's eight. */
        int hears(int x) {
            int ran = log[TRACED]++;
            if (ran >= 0 && ran < TRACED) log[ran] = 10;
            return x + i;
        }

        int gives(int x) {
            begins(11);
            return hears(x) - v;
        }

        int tells(int x) {
            begins(12);
            return gives(x) * 2;
        }
    }

    private static class Soft extends Parent {
        Soft(int kind, int i, int v, int[] log) {
            super(kind, i, v, log);
        }

        boolean grants(Home home, int thing) {
            return super.grants(home, thing) || home.nos >= 2;
        }

        int gives(int x) {
            begins(20);
            return super.gives(x) ^ 6;
        }
    }

    private static class Strict extends Parent {
        Strict(int kind, int i, int v, int[] log) {
            super(kind, i, v, log);
        }

        boolean grants(Home home, int thing) {
            return super.grants(home, thing) && home.given < v;
        }

        int hears(int x) {
            begins(30);
            return super.hears(x * 3);
        }
    }

    private static class Tired extends Parent {
        Tired(int kind, int i, int v, int[] log) {
            super(kind, i, v, log);
        }

        boolean grants(Home home, int thing) {
            return home.has(thing) && home.minutes[thing] <= v;
        }

        int tells(int x) {
            begins(40);
            return super.tells(x) + gives(1);
        }
    }

    private static final class Melting extends Soft {
        Melting(int kind, int i, int v, int[] log) {
            super(kind, i, v, log);
        }

        boolean grants(Home home, int thing) {
            return super.grants(home, thing) || home.has(thing) && home.sweet[thing] > 6;
        }

        int hears(int x) {
            begins(50);
            return -super.hears(x);
        }

        int gives(int x) {
            begins(51);
            return super.gives(x + 1);
        }
    }

    private static final class Fair extends Strict {
        Fair(int kind, int i, int v, int[] log) {
            super(kind, i, v, log);
        }

        boolean grants(Home home, int thing) {
            return super.grants(home, thing) && home.has(thing) && home.habit[thing] <= 3 * v;
        }

        int tells(int x) {
            begins(60);
            return super.tells(x - i);
        }
    }

    private static final class Told extends Tired {
        Told(int kind, int i, int v, int[] log) {
            super(kind, i, v, log);
        }

        boolean grants(Home home, int thing) {
            int part = PARTS * i + home.evening % PARTS;
            return super.grants(home, thing) && part >= 0 && part < home.rows.length && home.rows[part] != 0;
        }

        int gives(int x) {
            begins(70);
            return super.gives(x) + super.hears(2);
        }

        int hears(int x) {
            begins(71);
            return super.hears(x) ^ v;
        }
    }

    /** CLAUSES as read: each E is a row of code, its parts ahead of what joins them. */
    private static final class House {
        final int[] words, numbers, ends, code;
        final int[] seen = new int[LETTERS.length()];

        House(Reader reader) {
            int clauses = Math.max(0, Math.min(reader.clauses, CLAUSES));
            int codes = Math.max(0, Math.min(reader.codes, SIGNS));
            words = new int[clauses];
            numbers = new int[clauses];
            ends = new int[clauses];
            code = new int[codes];
            System.arraycopy(reader.words, 0, words, 0, clauses);
            System.arraycopy(reader.numbers, 0, numbers, 0, clauses);
            System.arraycopy(reader.ends, 0, ends, 0, clauses);
            System.arraycopy(reader.code, 0, code, 0, codes);
        }

        int last(int word, int without) {
            int n = without;
            for (int i = 0; i < words.length; i++) {
                if (words[i] == word) n = numbers[i];
            }
            return n;
        }

        /** What the letters of a TEST mean now, in their order. */
        void look(Parent p, int thing, Home home) {
            seen[0] = p.i;
            seen[1] = p.kind;
            seen[2] = thing;
            seen[3] = home.clock / 10;
            seen[4] = home.nos;
            seen[5] = home.has(thing) ? home.habit[thing] % 100 : 0;
        }

        int sum(int word, int without) {
            boolean any = false;
            int sum = 0, from = 0;
            for (int i = 0; i < words.length; i++) {
                if (words[i] == word) {
                    any = true;
                    if (holds(from, ends[i])) sum += numbers[i];
                }
                from = ends[i];
            }
            return any ? sum : without;
        }

        /** The stack is the bits of an int: four deep, no more than some fifteen wait. */
        boolean holds(int from, int end) {
            int stack = 0;
            for (int i = from; i >= 0 && i < end && i < code.length; i++) {
                int part = code[i], top = stack & 1, rest = stack >>> 1;
                switch (part & 3) {
                    case NOT:
                        stack ^= 1;
                        break;
                    case AND:
                        stack = top == 1 ? rest : rest & ~1;
                        break;
                    case OR:
                        stack = rest | top;
                        break;
                    default:
                        int letter = part >> 2 & 7, n = part >> 7;
                        int value = letter < seen.length ? seen[letter] : 0;
                        int sign = value < n ? 0 : value == n ? 1 : 2;
                        stack = stack << 1 | (sign == (part >> 5 & 3) ? 1 : 0);
                        break;
                }
            }
            return (stack & 1) == 1;
        }
    }

    /** THE TEXT, and who reads it. It stands at the first byte that it can not take: that is the FAULT. */
    private static final class Reader {
        final int[] text = new int[SIGNS], code = new int[SIGNS];
        final int[] words = new int[CLAUSES], numbers = new int[CLAUSES], ends = new int[CLAUSES];
        int length, at, codes, clauses;

        boolean reads() {
            at = 0;
            codes = 0;
            clauses = 0;
            boolean good = clause();
            for (int i = 1; i < CLAUSES && good && takes(';'); i++) good = clause();
            return good && at == length;
        }

        private boolean takes(int sign) {
            if (at >= length || at >= SIGNS || text[at] != sign) return false;
            at++;
            return true;
        }

        private boolean clause() {
            int word = word();
            if (word < 0 || !takes(' ')) return false;
            int n = number();
            if (n < 0) return false;
            if ((word == CALM || word == FUSS) && !(takes(' ') && either(0))) return false;
            if (clauses >= CLAUSES) return false;
            words[clauses] = word;
            numbers[clauses] = n;
            ends[clauses++] = codes;
            return true;
        }

        private int word() {
            for (int word = CALM; word <= DEEP; word++) {
                if (takes(WORDS.charAt(4 * word))) {
                    boolean whole = takes(WORDS.charAt(4 * word + 1)) && takes(WORDS.charAt(4 * word + 2))
                        && takes(WORDS.charAt(4 * word + 3));
                    return whole ? word : -1;
                }
            }
            return -1;
        }

        private int number() {
            int first = oneOf(DIGITS);
            if (first < 0) return -1;
            int second = oneOf(DIGITS);
            return second < 0 ? first : 10 * first + second;
        }

        /** E. The depth is how many ( and ! it is within. */
        private boolean either(int depth) {
            boolean good = every(depth);
            for (int i = 0; i < SIGNS && good && takes('|'); i++) good = every(depth) && puts(OR);
            return good;
        }

        /** T. */
        private boolean every(int depth) {
            boolean good = factor(depth);
            for (int i = 0; i < SIGNS && good && takes('&'); i++) good = factor(depth) && puts(AND);
            return good;
        }

        /** F. */
        private boolean factor(int depth) {
            if (depth < DEPTH && takes('!')) return factor(depth + 1) && puts(NOT);
            if (depth < DEPTH && takes('(')) return either(depth + 1) && takes(')');
            int letter = oneOf(LETTERS);
            int sign = letter < 0 ? -1 : oneOf(COMPARED);
            int n = sign < 0 ? -1 : number();
            return n >= 0 && puts(TEST | letter << 2 | sign << 5 | n << 7);
        }

        private int oneOf(String signs) {
            if (at >= length || at >= SIGNS) return -1;
            int place = signs.indexOf((char) text[at]);
            if (place >= 0) at++;
            return place;
        }

        private boolean puts(int part) {
            if (codes >= SIGNS) return false;
            code[codes++] = part;
            return true;
        }
    }
}
