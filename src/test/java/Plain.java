import java.util.ArrayList;
import java.util.List;
import java.util.function.IntPredicate;
import java.util.regex.Matcher;
import java.util.regex.Pattern;

/**
 * The document once more, written in another way than the class: texts are taken apart by
 * hand, faults are found by a pattern, kinds are tables, tapes are the host's own arrays.
 */
final class Plain {
    static final int NEVER = -5;

    interface Test { boolean by(int[] v); }

    record Clause(String word, int n, Test test) { }

    record Thing(int minutes, int sweet) { }

    record Person(int i, int kind, int v) { }

    static final class Evening implements Cloneable {
        int clock, sleepy, nos, given, one, number, late = 60, deep = 30;
        int[] habit = new int[7];
        int[][] rows = new int[4][];
        List<Clause> house = List.of();

        Evening twin() {
            Evening e = new Evening();
            e.clock = clock; e.sleepy = sleepy; e.nos = nos; e.given = given; e.one = one; e.number = number;
            e.late = late; e.deep = deep; e.house = house;
            e.habit = habit.clone();
            for (int i = 0; i < 4; i++) e.rows[i] = rows[i] == null ? null : rows[i].clone();
            return e;
        }

        int how() { return sleepy >= deep ? 1 : clock >= late ? 2 : 0; }
    }

    record Image(List<Thing> things, List<Person> persons, Evening evening, List<Boolean> heard, List<Integer> book) { }

    List<Thing> things = new ArrayList<>();
    List<Person> persons = new ArrayList<>();
    Evening now = new Evening();
    List<Boolean> heard = new ArrayList<>();
    List<Integer> book = new ArrayList<>();
    Image image;
    StringBuilder text = new StringBuilder();
    int houses;
    List<Integer> ran = new ArrayList<>();
    Object[] tapes = new Object[6];

    // ---- texts

    static final Pattern HOUSE = Pattern.compile(pattern());

    private static String pattern() {
        String number = "[0-9][0-9]?", test = "[pktcnh][<=>]" + number, f = test, e = "";
        for (int d = 0; d <= 4; d++) {
            if (d > 0) f = "(?:" + test + "|!(?:" + f + ")|\\((?:" + e + ")\\))";
            String t = f + "(?:&" + f + ")*";
            e = t + "(?:\\|" + t + ")*";
        }
        String clause = "(?:(?:calm|fuss) " + number + " " + e + "|(?:late|deep) " + number + ")";
        return clause + "(?:;" + clause + "){0,9}";
    }

    static int fault(String text) {
        for (int n = 1; n <= text.length(); n++) {
            Matcher m = HOUSE.matcher(text.substring(0, n));
            if (!m.matches() && !m.hitEnd()) return n - 1;
        }
        return HOUSE.matcher(text).matches() ? -1 : text.length();
    }

    static List<Clause> clauses(String text) {
        List<Clause> all = new ArrayList<>();
        for (String clause : text.split(";")) {
            String[] parts = clause.split(" ");
            all.add(new Clause(parts[0], Integer.parseInt(parts[1]), parts.length > 2 ? test(parts[2]) : null));
        }
        return all;
    }

    /** Where a sign stands outside of all parentheses; -1: nowhere. */
    private static int outside(String e, char sign) {
        int open = 0;
        for (int i = 0; i < e.length(); i++) {
            if (e.charAt(i) == '(') open++;
            else if (e.charAt(i) == ')') open--;
            else if (e.charAt(i) == sign && open == 0) return i;
        }
        return -1;
    }

    static Test test(String e) {
        int or = outside(e, '|');
        if (or >= 0) {
            Test a = test(e.substring(0, or)), b = test(e.substring(or + 1));
            return v -> a.by(v) || b.by(v);
        }
        int and = outside(e, '&');
        if (and >= 0) {
            Test a = test(e.substring(0, and)), b = test(e.substring(and + 1));
            return v -> a.by(v) && b.by(v);
        }
        if (e.startsWith("!")) {
            Test a = test(e.substring(1));
            return v -> !a.by(v);
        }
        if (e.startsWith("(")) return test(e.substring(1, e.length() - 1));
        int letter = "pktcnh".indexOf(e.charAt(0)), n = Integer.parseInt(e.substring(2));
        char sign = e.charAt(1);
        return v -> sign == '<' ? v[letter] < n : sign == '=' ? v[letter] == n : v[letter] > n;
    }

    int sum(Evening e, Person p, int t, String word, int without) {
        int[] v = {p.i, p.kind, t, e.clock / 10, e.nos, e.habit[t] % 100};
        return e.house.stream().noneMatch(c -> c.word.equals(word)) ? without
            : e.house.stream().filter(c -> c.word.equals(word) && c.test.by(v)).mapToInt(Clause::n).sum();
    }

    // ---- asks

    boolean gives(Evening e, Person p, int t) {
        int minutes = things.get(t).minutes;
        boolean early = e.clock + minutes < e.late, short_ = minutes <= p.v;
        switch (p.kind) {
            case 0: return early;
            case 1: return early || e.nos >= 2;
            case 2: return early && e.given < p.v;
            case 3: return short_;
            case 4: return early || e.nos >= 2 || things.get(t).sweet > 6;
            case 5: return early && e.given < p.v && e.habit[t] <= 3 * p.v;
            default: return short_ && e.rows[p.i][e.number % 4] == 1;
        }
    }

    void pass(Evening e, Person p, int t, boolean gives) {
        if (gives) {
            e.sleepy += sum(e, p, t, "calm", 4);
            e.clock += things.get(t).minutes;
            e.nos = 0;
            e.given++;
            if (e.habit[t] < 999) e.habit[t]++;
        } else {
            e.sleepy = Math.max(0, e.sleepy - sum(e, p, t, "fuss", 2));
            e.clock++;
            e.nos++;
        }
    }

    /** Asks by turns, never for one that is not wanted, with so many gifts at most; which were given. */
    List<Integer> go(Evening e, Person first, Person second, int n, IntPredicate wanted, int gifts) {
        List<Integer> given = new ArrayList<>();
        for (int i = 0; i < n && e.how() == 0; i++) {
            int size = things.size(), tries = 0;
            while (tries < size && !wanted.test(e.one)) {
                e.one = (e.one + 1) % size;
                tries++;
            }
            if (tries == size) break;
            Person p = i % 2 == 0 ? first : second;
            boolean gives = given.stream().filter(g -> g >= 0).count() < gifts && gives(e, p, e.one);
            given.add(gives ? e.one : -1);
            pass(e, p, e.one, gives);
            e.one = (e.one + 1) % size;
        }
        return given;
    }

    List<Integer> go(Evening e, Person p, int n) { return go(e, p, p, n, t -> true, 999); }

    static int slept(Evening e) { return e.how() == 1 ? e.clock : NEVER; }

    void nightOf(Evening e) {
        e.clock = e.sleepy = e.nos = e.given = e.one = 0;
        e.number++;
    }

    Person person(int i) { return i >= 0 && i < persons.size() ? persons.get(i) : null; }

    boolean has(int t) { return t >= 0 && t < things.size(); }

    // ---- the calls

    int thing(int minutes, int sweet) {
        if (minutes < 1 || minutes > 20 || sweet < 0 || sweet > 9) return -2;
        if (things.size() == 7) return -4;
        things.add(new Thing(minutes, sweet));
        now.habit[things.size() - 1] = 0;
        return things.size() - 1;
    }

    int parent(int kind, int v) {
        if (kind < 0 || kind > 6) return -1;
        if (v < 0 || v > 9) return -2;
        if (persons.size() == 4) return -4;
        persons.add(new Person(persons.size(), kind, v));
        now.rows[persons.size() - 1] = new int[] {1, 1, 1, 1};
        return persons.size() - 1;
    }

    int at(int thing, int what) {
        if (!has(thing) || what < 0 || what > 2) return -1;
        return what == 0 ? things.get(thing).minutes : what == 1 ? things.get(thing).sweet : now.habit[thing];
    }

    int of(int parent, int what) {
        Person p = person(parent);
        if (p == null) return -1;
        if (what == 0) return p.kind;
        if (what == 1) return p.v;
        for (int t = 0; t < things.size(); t++) {
            if (what == 10 + t) return gives(now, p, t) ? 1 : 0;
            if (what == 20 + t) return sum(now, p, t, "calm", 4);
            if (what == 30 + t) return sum(now, p, t, "fuss", 2);
        }
        return -1;
    }

    int habit(int thing, int n) {
        if (!has(thing)) return -1;
        if (n < 0 || n > 999) return -2;
        int was = now.habit[thing];
        now.habit[thing] = n;
        return was;
    }

    int row(int parent, int part, int n) {
        Person p = person(parent);
        if (p == null || part < 0 || part > 3) return -1;
        if (n != 0 && n != 1) return -2;
        if (p.kind != 6) return -3;
        int was = now.rows[parent][part];
        now.rows[parent][part] = n;
        return was;
    }

    int feed(int sign) {
        if (sign < 0 || sign > 127) return -2;
        if (text.length() == 100) return -4;
        return text.append((char) sign).length();
    }

    int house() {
        if (houses == 6) return -4;
        String read = text.toString();
        text.setLength(0);
        int fault = fault(read);
        if (fault >= 0) return -10 - fault;
        now.house = clauses(read);
        now.late = 60;
        now.deep = 30;
        for (Clause c : now.house) {
            if (c.word.equals("late")) now.late = c.n;
            if (c.word.equals("deep")) now.deep = c.n;
        }
        return houses++;
    }

    int told(int what) {
        int[] all = {now.number, now.clock, now.sleepy, now.nos, now.given, now.one, now.late, now.deep, now.how()};
        return what < 0 || what >= all.length ? -1 : all[what];
    }

    int ask(int parent) {
        Person p = person(parent);
        if (p == null) return -1;
        List<Integer> given = go(now, p, 1);
        return given.isEmpty() ? -3 : given.get(0) >= 0 ? 1 : 0;
    }

    int night() {
        if (now.number == 9999) return -3;
        int how = now.how();
        nightOf(now);
        return how;
    }

    int will(int thing) {
        if (!has(thing)) return -1;
        return persons.stream().filter(p -> gives(now, p, thing)).mapToInt(p -> 1 << p.i).sum();
    }

    int on(int parent, int n, int what) {
        Person p = person(parent);
        if (p == null || what < 0 || what > 4) return -1;
        if (n < 0 || n > 60) return -2;
        Evening e = now.twin();
        int asks = go(e, p, n).size();
        return new int[] {e.clock, e.sleepy, e.given, asks, e.how()}[what];
    }

    /** Of all clocks the place of the least that is no NEVER, the first of several; -1: all are. */
    static int least(List<Integer> clocks) {
        int min = clocks.stream().filter(c -> c >= 0).mapToInt(c -> c).min().orElse(-1);
        return min < 0 ? -1 : clocks.indexOf(min);
    }

    int with(int what) {
        if (what != 0 && what != 1) return -1;
        List<Integer> clocks = new ArrayList<>();
        for (Person p : persons) {
            Evening e = now.twin();
            go(e, p, 60);
            clocks.add(slept(e));
        }
        int who = least(clocks);
        return who < 0 ? NEVER : what == 0 ? who : clocks.get(who);
    }

    int both(int one, int other) {
        Person a = person(one), b = person(other);
        if (a == null || b == null) return -1;
        Evening e = now.twin();
        go(e, a, b, 60, t -> true, 999);
        return slept(e);
    }

    int limit(int parent, int what) {
        Person p = person(parent);
        if (p == null || what != 0 && what != 1) return -1;
        List<Integer> clocks = new ArrayList<>();
        for (int late = 1; late < 100; late++) {
            Evening e = now.twin();
            e.late = late;
            go(e, p, 60);
            clocks.add(slept(e));
        }
        int late = least(clocks);
        return late < 0 ? NEVER : what == 0 ? late + 1 : clocks.get(late);
    }

    int without(int parent) {
        Person p = person(parent);
        if (p == null) return -1;
        Evening with = now.twin();
        go(with, p, 60);
        List<Integer> clocks = new ArrayList<>();
        for (int t = 0; t < things.size(); t++) {
            int left = t;
            Evening e = now.twin();
            go(e, p, p, 60, u -> u != left, 999);
            clocks.add(slept(e));
        }
        int t = least(clocks);
        return t < 0 || slept(with) >= 0 && clocks.get(t) >= slept(with) ? NEVER : t;
    }

    private void orders(List<Integer> row, List<List<Integer>> all) {
        if (row.size() == things.size()) all.add(List.copyOf(row));
        for (int t = 0; t < things.size(); t++) {
            if (row.contains(t)) continue;
            row.add(t);
            orders(row, all);
            row.remove(row.size() - 1);
        }
    }

    int order(int parent, int k) {
        Person p = person(parent);
        if (p == null || k < -1 || k > 4) return -1;
        if (things.size() > 5) return -9;
        List<List<Integer>> all = new ArrayList<>();
        orders(new ArrayList<>(), all);
        int most = -1;
        List<Integer> best = null;
        for (List<Integer> row : all) {
            Evening e = now.twin();
            e.clock = e.sleepy = e.nos = e.given = 0;
            int minutes = 0;
            for (int i = 0; i < 60 && e.how() == 0 && !row.isEmpty(); i++) {
                int t = row.get(i % row.size());
                boolean gives = gives(e, p, t);
                if (gives) minutes += things.get(t).minutes;
                pass(e, p, t, gives);
            }
            if (minutes > most) {
                most = minutes;
                best = row;
            }
        }
        return k < 0 ? most : k < best.size() ? best.get(k) : NEVER;
    }

    int coupons(int parent) {
        Person p = person(parent);
        if (p == null) return -1;
        for (int n = 0; n <= 20; n++) {
            Evening e = now.twin();
            go(e, p, p, 60, t -> true, n);
            if (e.how() == 1) return n;
        }
        return NEVER;
    }

    int evenings(int parent, int n, int what) {
        Person p = person(parent);
        if (p == null || what < 0 || what > 2) return -1;
        if (n < 1 || n > 10) return -2;
        Evening e = now.twin();
        int clock = 0, tears = 0;
        for (int i = 0; i < n; i++) {
            go(e, p, 60);
            clock = e.clock;
            tears += e.how() == 2 ? 1 : 0;
            nightOf(e);
        }
        int habits = 0;
        for (int t = 0; t < things.size(); t++) habits += e.habit[t];
        return what == 0 ? clock : what == 1 ? tears : habits;
    }

    int hear(boolean given) {
        if (heard.size() == 8) return -4;
        heard.add(given);
        return heard.size();
    }

    int hush() {
        int were = heard.size();
        heard.clear();
        return were;
    }

    int who() {
        int bits = 0;
        for (Person p : persons) {
            List<Boolean> made = new ArrayList<>();
            go(now.twin(), p, heard.size()).forEach(g -> made.add(g >= 0));
            if (made.equals(heard)) bits += 1 << p.i;
        }
        return bits;
    }

    static long fraction(long above, long below, int part) {
        if (below == 0 || part != 0 && part != 1) return Long.MIN_VALUE;
        long a = above, b = below;
        while (b != 0) {
            long rest = a % b;
            a = b;
            b = rest;
        }
        return (part == 0 ? above : below) / a;
    }

    long odds(int parent, int part) {
        Person p = person(parent);
        if (p == null) return Long.MIN_VALUE;
        int slept = 0;
        for (int t = 0; t < things.size(); t++) {
            Evening e = now.twin();
            e.one = t;
            go(e, p, 60);
            if (e.how() == 1) slept++;
        }
        return fraction(slept, things.size(), part);
    }

    long mean(int part) {
        long all = 0;
        for (Person p : persons) {
            Evening e = now.twin();
            go(e, p, 60);
            all += e.clock;
        }
        return fraction(all, persons.size(), part);
    }

    int book(int parent) {
        if (parent == -1) {
            book.clear();
            return 0;
        }
        if (person(parent) == null) return -1;
        if (book.size() == 12) return -4;
        book.add(parent);
        return book.size();
    }

    int looked() {
        Evening e = now.twin();
        for (int i = 0; i < book.size(); i++) {
            List<Integer> given = go(e, person(book.get(i)), 1);
            if (given.isEmpty() || given.get(0) < 0) return i;
        }
        return NEVER;
    }

    int judge(int tape, int i) {
        if (tape < 0 || tape > 5) return -1;
        if (tapes[tape] != null && !(tapes[tape] instanceof long[])) return -12;
        long[] told = tapes[tape] == null ? new long[0] : (long[]) tapes[tape];
        for (int t = 0; t < things.size(); t++) {
            long place = (long) i + t;
            if (i < 0 || place >= told.length) return 100 + t;
            if (told[(int) place] != now.habit[t]) return t;
        }
        return NEVER;
    }

    int image() {
        image = new Image(List.copyOf(things), List.copyOf(persons), now.twin(), List.copyOf(heard), List.copyOf(book));
        return persons.size();
    }

    int undo() {
        if (image == null) return -3;
        things = new ArrayList<>(image.things);
        persons = new ArrayList<>(image.persons);
        now = image.evening.twin();
        heard = new ArrayList<>(image.heard);
        book = new ArrayList<>(image.book);
        return persons.size();
    }

    // ---- acts: for each kind the bodies of hears, gives, tells (0: none)

    static final int[] UP = {-1, 0, 0, 0, 1, 2, 3};
    static final int[][] BODIES = {
        {10, 11, 12}, {0, 20, 0}, {30, 0, 0}, {0, 0, 40}, {50, 51, 0}, {0, 0, 60}, {71, 70, 0}};

    int act(int parent, int act, int x) {
        ran.clear();
        Person p = person(parent);
        return p == null || act < 0 || act > 2 ? 0 : act(p, p.kind, act, x);
    }

    private int act(Person p, int from, int act, int x) {
        int kind = from;
        while (BODIES[kind][act] == 0) kind = UP[kind];
        int body = BODIES[kind][act], up = UP[kind];
        ran.add(body);
        switch (body) {
            case 10: return x + p.i;
            case 11: return act(p, p.kind, 0, x) - p.v;
            case 12: return act(p, p.kind, 1, x) * 2;
            case 20: return act(p, up, 1, x) ^ 6;
            case 30: return act(p, up, 0, x * 3);
            case 40: {
                int first = act(p, up, 2, x);
                return first + act(p, p.kind, 1, 1);
            }
            case 50: return -act(p, up, 0, x);
            case 51: return act(p, up, 1, x + 1);
            case 60: return act(p, up, 2, x - p.i);
            case 70: {
                int first = act(p, up, 1, x);
                return first + act(p, up, 0, 2);
            }
            default: return act(p, up, 0, x) ^ p.v;
        }
    }

    int trace(int i) { return i < 0 || i >= Math.min(20, ran.size()) ? -1 : ran.get(i); }

    int taken(int parent, int k) {
        if (k < 0 || k > 6) return -2;
        Person p = person(parent);
        if (p == null) return -11;
        for (int kind = p.kind; kind >= 0; kind = UP[kind]) {
            if (kind == k) return p.kind;
        }
        return -12;
    }

    int count(int what) {
        int[] all = {persons.size(), things.size(), houses, heard.size(), book.size(), text.length(), ran.size()};
        return what < 0 || what >= all.length ? -2 : all[what];
    }

    // ---- tapes: the host's own arrays

    private static int size(Object row) { return java.lang.reflect.Array.getLength(row); }

    int tape(int tape, int sort, int n) {
        if (tape < 0 || tape > 5) return -1;
        if (sort < -1 || sort > 4 || sort >= 0 && n > 60) return -2;
        if (sort >= 0 && n < 0) return -14;
        switch (sort) {
            case 0: tapes[tape] = new byte[n]; break;
            case 1: tapes[tape] = new short[n]; break;
            case 2: tapes[tape] = new int[n]; break;
            case 3: tapes[tape] = new long[n]; break;
            case 4: tapes[tape] = new boolean[n]; break;
            default: tapes[tape] = null; break;
        }
        return 1;
    }

    int item(int tape, int i, long v) {
        if (tape < 0 || tape > 5) return -1;
        Object row = tapes[tape];
        if (row == null) return -11;
        if (i < 0 || i >= size(row)) return -13;
        if (row instanceof byte[]) ((byte[]) row)[i] = (byte) v;
        else if (row instanceof short[]) ((short[]) row)[i] = (short) v;
        else if (row instanceof int[]) ((int[]) row)[i] = (int) v;
        else if (row instanceof long[]) ((long[]) row)[i] = v;
        else ((boolean[]) row)[i] = v != 0;
        return 1;
    }

    long read(int tape, int i) {
        if (tape < 0 || tape > 5 || tapes[tape] == null) return Long.MIN_VALUE;
        if (i < 0 || i >= size(tapes[tape])) return Long.MIN_VALUE;
        Object item = java.lang.reflect.Array.get(tapes[tape], i);
        return item instanceof Boolean ? (Boolean) item ? 1 : 0 : ((Number) item).longValue();
    }

    int shift(int tape, int i, int other, int j, int n) {
        if (tape < 0 || tape > 5 || other < 0 || other > 5) return -1;
        Object from = tapes[tape], to = tapes[other];
        if (from == null || to == null) return -11;
        if (from.getClass() != to.getClass()) return -12;
        if (n < 0 || i < 0 || j < 0 || i > size(from) || j > size(to) || n > size(from) - i || n > size(to) - j) return -13;
        System.arraycopy(from, i, to, j, n);
        return n;
    }
}
