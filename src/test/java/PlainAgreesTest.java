/**
 * Long runs of calls on the class and on Plain, which must answer alike. The calls come from a row of
 * numbers that is the same each time; how many runs may be told by the property "runs".
 */
public final class PlainAgreesTest {
    private static long seed;

    private static int any(int n) {
        seed = seed * 6364136223846793005L + 1442695040888963407L;
        return (int) ((seed >>> 33) % n);
    }

    /** Most of the time within the bounds, at times just beside them or far off. */
    private static int near(int low, int high) {
        int kind = any(24);
        if (kind == 0) return low - 1;
        if (kind == 1) return high + 1;
        if (kind == 2) return new int[] {Integer.MIN_VALUE, Integer.MAX_VALUE, -1, -5, 1000, 40}[any(6)];
        return low + any(high - low + 1);
    }

    private static String number() {
        int kind = any(5);
        return kind < 3 ? "" + any(10) : kind == 3 ? "" + (10 + any(90)) : "0" + any(10);
    }

    private static String test() {
        return "pktcnh".charAt(any(6)) + "" + "<=>".charAt(any(3)) + (any(4) == 0 ? number() : "" + any(5));
    }

    private static String factor(int depth) {
        int kind = any(depth > 4 ? 1 : 5);
        return kind == 3 ? "!" + factor(depth + 1) : kind == 4 ? "(" + either(depth + 1) + ")" : test();
    }

    private static String either(int depth) {
        StringBuilder e = new StringBuilder(factor(depth));
        for (int i = any(4); i > 1; i--) e.append(any(2) == 0 ? '&' : '|').append(factor(depth));
        return e.toString();
    }

    private static String clause() {
        switch (any(6)) {
            case 0: return "late " + (any(3) == 0 ? number() : "" + (20 + any(80)));
            case 1: return "deep " + (any(3) == 0 ? number() : "" + (10 + any(60)));
            case 2: case 3: return "fuss " + any(5) + " " + either(0);
            default: return "calm " + any(12) + " " + either(0);
        }
    }

    private static String text() {
        StringBuilder text = new StringBuilder(clause());
        for (int i = any(any(8) == 0 ? 12 : 6); i > 0; i--) text.append(';').append(clause());
        if (any(3) == 0) {
            int at = any(text.length());
            int kind = any(3);
            char sign = "calmfusdetp<=>&|!(); 019khz".charAt(any(27));
            if (kind == 0) text.setCharAt(at, sign);
            else if (kind == 1) text.insert(at, sign);
            else text.setLength(at);
        }
        if (text.length() > 100) text.setLength(100);
        return text.toString();
    }

    private static MoreStory x;
    private static Plain y;
    private static String where;

    private static void same(String call, long got, long want) { Due.is(where + call, got, want); }

    private static int feedAll() {
        String text = text();
        for (int i = 0; i < text.length(); i++) same("feed", x.feed(text.charAt(i)), y.feed(text.charAt(i)));
        String shown = y.text.toString();
        same("house " + shown, x.house(), y.house());
        return text.length() + 1;
    }

    private static void tapes() {
        int tape = near(0, 5), i = near(0, 8), n = near(0, 10), other = any(2) == 0 ? tape : near(0, 5), j = near(0, 5);
        long v = any(3) == 0 ? seed : any(4);
        switch (any(5)) {
            case 0: {
                int sort = near(-1, 4), size = any(6) == 0 ? near(0, 60) : near(0, 12);
                same("tape " + tape + " " + sort + " " + size, x.tape(tape, sort, size), y.tape(tape, sort, size));
                break;
            }
            case 1: same("item " + tape + " " + i + " " + v, x.item(tape, i, v), y.item(tape, i, v)); break;
            case 2: same("read " + tape + " " + i, x.read(tape, i), y.read(tape, i)); break;
            case 3: same("shift", x.shift(tape, i, other, j, n), y.shift(tape, i, other, j, n)); break;
            default: same("judge " + tape + " " + i, x.judge(tape, i), y.judge(tape, i)); break;
        }
    }

    /** A tape that tells the habits as they are, but at times for one; and looked at from a place on. */
    private static void judged() {
        int tape = any(6), from = any(3), n = Math.max(0, from + y.things.size() + 1 - any(4));
        same("tape", x.tape(tape, 3, n), y.tape(tape, 3, n));
        for (int t = 0; t < y.things.size(); t++) {
            long v = y.now.habit[t] + (any(6) == 0 ? 1L << 32 : any(8) == 0 ? 1 : 0);
            same("item", x.item(tape, from + t, v), y.item(tape, from + t, v));
        }
        same("judge", x.judge(tape, from), y.judge(tape, from));
    }

    private static void state() {
        for (int i = -1; i < 10; i++) same("told " + i, x.told(i), y.told(i));
        for (int i = -1; i < 8; i++) same("count " + i, x.count(i), y.count(i));
        for (int t = 0; t < 7; t++) same("at " + t, x.at(t, 2), y.at(t, 2));
    }

    private static void making() {
        int a = any(3) == 0 ? near(1, 20) : near(1, 9), b = near(0, 9), p = near(0, 3), t = near(0, 6);
        int kind = near(0, 6), n = any(4) == 0 ? near(0, 999) : any(3) == 0 ? near(995, 999) : near(0, 12);
        switch (any(8)) {
            case 0: same("thing " + a + " " + b, x.thing(a, b), y.thing(a, b)); break;
            case 1: same("parent " + kind + " " + b, x.parent(kind, b), y.parent(kind, b)); break;
            case 2: same("habit", x.habit(t, n), y.habit(t, n)); break;
            case 3: case 4: {
                int part = near(0, 3), bit = near(0, 1);
                same("row", x.row(p, part, bit), y.row(p, part, bit));
                break;
            }
            case 5: if (any(3) == 0) same("image", x.image(), y.image()); break;
            case 6: if (any(2) == 0) same("undo", x.undo(), y.undo()); break;
            default: feedAll(); break;
        }
    }

    private static void going() {
        int p = near(0, 3);
        switch (any(8)) {
            case 0: same("night", x.night(), y.night()); break;
            case 1: {
                boolean given = any(3) != 0;
                same("hear", x.hear(given), y.hear(given));
                break;
            }
            case 2: if (any(3) == 0) same("hush", x.hush(), y.hush()); break;
            case 3: same("book " + p, x.book(p), y.book(p)); break;
            default: same("ask " + p, x.ask(p), y.ask(p)); break;
        }
    }

    private static void asked() {
        int p = near(0, 3), q = near(0, 3), n = near(0, 60), what = near(0, 4), t = near(0, 6), k = near(-1, 4);
        int part = near(0, 1), two = near(0, 2), few = near(1, 10), of = any(6) == 0 ? near(0, 40) : 10 * any(4) + any(7);
        switch (any(18)) {
            case 0: same("at", x.at(t, two), y.at(t, two)); break;
            case 1: case 2: same("of " + p + " " + of, x.of(p, of), y.of(p, of)); break;
            case 3: same("will " + t, x.will(t), y.will(t)); break;
            case 4: same("on " + p + " " + n + " " + what, x.on(p, n, what), y.on(p, n, what)); break;
            case 5: same("with " + part, x.with(part), y.with(part)); break;
            case 6: same("both " + p + " " + q, x.both(p, q), y.both(p, q)); break;
            case 7: same("limit " + p + " " + part, x.limit(p, part), y.limit(p, part)); break;
            case 8: same("without " + p, x.without(p), y.without(p)); break;
            case 9: same("order " + p + " " + k, x.order(p, k), y.order(p, k)); break;
            case 10: same("coupons " + p, x.coupons(p), y.coupons(p)); break;
            case 11: same("evenings", x.evenings(p, few, two), y.evenings(p, few, two)); break;
            case 12: same("who", x.who(), y.who()); break;
            case 13: same("odds " + p + " " + part, x.odds(p, part), y.odds(p, part)); break;
            case 14: same("mean " + part, x.mean(part), y.mean(part)); break;
            case 15: same("looked", x.looked(), y.looked()); break;
            case 16: same("taken", x.taken(p, n % 8), y.taken(p, n % 8)); break;
            default: {
                int number = any(4) == 0 ? (int) seed : any(20);
                same("act " + p + " " + two + " " + number, x.act(p, two, number), y.act(p, two, number));
                for (int i = -1; i < 14; i++) same("trace " + i, x.trace(i), y.trace(i));
                break;
            }
        }
    }

    private static void run(int number, int calls) {
        seed = 77777L * number + 5;
        any(2);
        x = new MoreStory();
        y = new Plain();
        where = "run " + number + ": ";
        for (int i = any(7); i >= 0; i--) same("thing", x.thing(1 + i * 2, (i * 7) % 10), y.thing(1 + i * 2, (i * 7) % 10));
        for (int i = any(5); i > 0; i--) {
            int kind = any(7), v = any(10);
            same("parent", x.parent(kind, v), y.parent(kind, v));
        }
        if (any(3) != 0) feedAll();
        for (int i = 0; i < calls; i++) {
            int kind = any(12);
            if (kind < 2) making();
            else if (kind < 5) going();
            else if (kind < 6) tapes();
            else if (kind < 7) judged();
            else asked();
        }
        state();
    }

    public static void main(String[] args) {
        int runs = Integer.getInteger("runs", 400);
        for (int i = 0; i < runs; i++) run(i, 150);
        Due.end();
    }
}
