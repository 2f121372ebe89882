/** "What is answered so changes nothing; what is asked changes nothing": each refusal of each promise, each call that asks. */
public final class RefusedTest {
    private static final int MIN = Integer.MIN_VALUE, MAX = Integer.MAX_VALUE;
    private static final int NONE = -1, BAD = -2, STATE = -3, FULL = -4, NOTHING = -11, CAST = -12, PLACE = -13, SIZE = -14;

    private static void some(String name, Whole.Call call, long due) {
        Whole.stays(Whole::some, name, call, due);
    }

    private static void full(String name, Whole.Call call, long due) {
        Whole.stays(Whole::full, name, call, due);
    }

    private static void thing() {
        Due.sentence("2: BAD: minutes, sweet; FULL: 7");
        some("minutes 0", x -> x.thing(0, 5), BAD);
        some("minutes 21", x -> x.thing(21, 5), BAD);
        some("sweet -1", x -> x.thing(5, -1), BAD);
        some("sweet 10", x -> x.thing(5, 10), BAD);
        full("an eighth", x -> x.thing(5, 5), FULL);
        full("a bad eighth", x -> x.thing(0, 5), BAD);
    }

    private static void parent() {
        Due.sentence("3: NONE: kind; BAD: v; FULL: 4");
        some("kind -1", x -> x.parent(-1, 5), NONE);
        some("kind 7", x -> x.parent(7, 5), NONE);
        some("v -1", x -> x.parent(1, -1), BAD);
        some("v 10", x -> x.parent(1, 10), BAD);
        full("a fifth", x -> x.parent(1, 5), FULL);
        full("a fifth of no kind", x -> x.parent(7, 5), NONE);
        full("a bad fifth", x -> x.parent(1, 10), BAD);
    }

    private static void habit() {
        Due.sentence("6: NONE; BAD");
        some("thing -1", x -> x.habit(-1, 5), NONE);
        some("thing 3", x -> x.habit(3, 5), NONE);
        some("n -1", x -> x.habit(0, -1), BAD);
        some("n 1000", x -> x.habit(0, 1000), BAD);
    }

    private static void row() {
        Due.sentence("7: NONE: parent, part; BAD; STATE: another KIND");
        some("parent -1", x -> x.row(-1, 1, 1), NONE);
        some("parent 3", x -> x.row(3, 1, 1), NONE);
        some("part -1", x -> x.row(0, -1, 0), NONE);
        some("part 4", x -> x.row(0, 4, 0), NONE);
        some("n -1", x -> x.row(0, 1, -1), BAD);
        some("n 2", x -> x.row(0, 1, 2), BAD);
        some("a STRICT one", x -> x.row(1, 1, 0), STATE);
        some("a MELTING one", x -> x.row(2, 1, 0), STATE);
        for (int kind = 0; kind < 6; kind++) {
            int k = kind;
            Whole.stays(() -> ofKind(k), "kind " + k, x -> x.row(1, 1, 0), STATE);
        }
    }

    /** The second one of a kind, the first a TOLD one. */
    private static MoreStory ofKind(int kind) {
        MoreStory x = new MoreStory();
        Due.minutes(x, 3, 5);
        Due.parents(x, 6, 9, kind, 5);
        x.image();
        return x;
    }

    private static void texts() {
        Due.sentence("8: BAD; FULL");
        some("-1", x -> x.feed(-1), BAD);
        some("128", x -> x.feed(128), BAD);
        some("256 and a", x -> x.feed(256 + 'e'), BAD);
        full("a 101st", x -> x.feed('e'), FULL);
        full("a bad 101st", x -> x.feed(128), BAD);
        Due.sentence("9: FULL: there are 6 (THE TEXT stays)");
        full("a seventh", MoreStory::house, FULL);
        Due.sentence("9: -10 less the FAULT (the one that held holds)");
        MoreStory x = Whole.some(), y = Whole.some();
        Due.is("lat", x.house(), -13);
        y.feed('!');
        Due.is("lat!", y.house(), -13);
        long[] got = Whole.told(x), due = Whole.told(y);
        for (int i = 0; i < due.length; i++) Due.is("whole " + i, got[i], due[i]);
        Due.is("late", x.told(6), 40);
        Due.is("deep", x.told(7), 35);
        Due.is("houses", x.count(2), 1);
    }

    private static MoreStory tears() {
        MoreStory x = Whole.some();
        for (int i = 0; i < 60 && x.told(8) == 0; i++) x.ask(1);
        Due.is("tears", x.told(8), 2);
        return x;
    }

    private static MoreStory slept() {
        MoreStory x = Due.with("deep 8");
        Due.minutes(x, 3, 5);
        Due.parents(x, 6, 9, 0, 0);
        x.image();
        Due.asks(x, 0, 2);
        Due.is("slept", x.told(8), 1);
        return x;
    }

    private static MoreStory noThings() {
        MoreStory x = new MoreStory();
        Due.parents(x, 6, 9, 0, 0);
        x.image();
        return x;
    }

    private static void ask() {
        Due.sentence("11: NONE; STATE: THE EVENING is over, or there are no THINGS");
        for (int p : new int[] {-1, 3, MIN, MAX}) some("parent " + p, x -> x.ask(p), NONE);
        for (int p = 0; p < 3; p++) {
            int i = p;
            Whole.stays(RefusedTest::tears, "behind TEARS, parent " + p, x -> x.ask(i), STATE);
        }
        for (int p = 0; p < 2; p++) {
            int i = p;
            Whole.stays(RefusedTest::slept, "she SLEEPS, parent " + p, x -> x.ask(i), STATE);
            Whole.stays(RefusedTest::noThings, "no things, parent " + p, x -> x.ask(i), STATE);
        }
        Whole.stays(RefusedTest::tears, "nobody, behind TEARS", x -> x.ask(3), NONE);
        Whole.stays(RefusedTest::noThings, "nobody, no things", x -> x.ask(2), NONE);
    }

    private static void heardAndBooks() {
        Due.sentence("22: FULL: 8");
        full("a ninth +", x -> x.hear(true), FULL);
        full("a ninth -", x -> x.hear(false), FULL);
        Due.sentence("27: NONE; FULL: 12");
        for (int p : new int[] {-2, 3, MIN, MAX}) some("parent " + p, x -> x.book(p), NONE);
        for (int p = 0; p < 4; p++) {
            int i = p;
            full("a thirteenth, " + p, x -> x.book(i), FULL);
        }
        full("nobody as a thirteenth", x -> x.book(4), NONE);
        Due.sentence("31: STATE: there is none");
        full("no image", MoreStory::undo, STATE);
    }

    private static void tapes() {
        Due.sentence("36: NONE: tape; BAD: sort, n above 60; SIZE");
        for (int tape : new int[] {-1, 6, MIN, MAX}) some("tape " + tape, x -> x.tape(tape, 2, 3), NONE);
        for (int sort : new int[] {-2, 5, MIN, MAX}) some("sort " + sort, x -> x.tape(2, sort, 3), BAD);
        for (int n : new int[] {61, MAX}) some("n " + n, x -> x.tape(2, 2, n), BAD);
        for (int n : new int[] {-1, MIN}) some("n " + n, x -> x.tape(2, 2, n), SIZE);
        Due.sentence("37: NONE; NOTHING; PLACE");
        for (int tape : new int[] {-1, 6, MIN, MAX}) some("tape " + tape, x -> x.item(tape, 0, 9), NONE);
        some("tape 5", x -> x.item(5, 0, 9), NOTHING);
        for (int i : new int[] {-1, 3, 59, 60, MIN, MAX}) some("place " + i, x -> x.item(2, i, 9), PLACE);
        full("place 60", x -> x.item(0, 60, 9), PLACE);
    }

    private static void shifts() {
        Due.sentence("39: NONE: tapes; NOTHING; CAST: of unlike sorts; PLACE: n, i or j is below 0, or beyond either's end");
        for (int tape : new int[] {-1, 6, MIN, MAX}) {
            some("tape " + tape, x -> x.shift(tape, 0, 2, 0, 1), NONE);
            some("other " + tape, x -> x.shift(2, 0, tape, 0, 1), NONE);
        }
        some("from 5", x -> x.shift(5, 0, 2, 0, 1), NOTHING);
        some("to 5", x -> x.shift(2, 0, 5, 0, 1), NOTHING);
        some("5 to 5", x -> x.shift(5, 0, 5, 0, 0), NOTHING);
        for (int tape = 0; tape < 5; tape++) {
            for (int other = 0; other < 5; other++) {
                int a = tape, b = other;
                if (a != b) some(a + " to " + b, x -> x.shift(a, 0, b, 0, 1), CAST);
            }
        }
        int[][] places = {{-1, 1, 1}, {1, -1, 1}, {1, 0, -1}, {0, 1, 3}, {1, 0, 3}, {3, 0, 1}, {0, 3, 1}, {0, 0, 4}, {4, 0, 0},
            {0, 4, 0}, {MIN, 0, 1}, {0, MIN, 1}, {0, 0, MIN}, {MAX, 0, 1}, {0, MAX, 1}, {0, 0, MAX}, {1, 0, MAX}, {0, 1, MAX}};
        for (int[] p : places) some(p[0] + " " + p[1] + " " + p[2], x -> x.shift(2, p[0], 2, p[1], p[2]), PLACE);
    }

    private static void asked(String name, Whole.Call call) {
        some(name, call, call.by(Whole.some()));
        full(name + ", full", call, call.by(Whole.full()));
        Whole.stays(RefusedTest::tears, name + ", tears", call, call.by(tears()));
        Whole.stays(RefusedTest::slept, name + ", slept", call, call.by(slept()));
        Whole.stays(RefusedTest::noThings, name + ", no things", call, call.by(noThings()));
    }

    /** What is asked of a parent: of each, and of one that is not there. */
    private static void askedOfParents() {
        for (int parent = 0; parent < 4; parent++) {
            int p = parent;
            for (int what = -1; what < 40; what += 3) {
                int w = what;
                asked("of", x -> x.of(p, w));
            }
            for (int what = -1; what < 6; what++) {
                int w = what;
                asked("on", x -> x.on(p, 60, w));
                asked("order", x -> x.order(p, w));
            }
            asked("on 61", x -> x.on(p, 61, 0));
            for (int what = -1; what < 3; what++) {
                int w = what;
                asked("limit", x -> x.limit(p, w));
                asked("evenings", x -> x.evenings(p, 10, w));
                asked("odds", x -> x.odds(p, w));
            }
            asked("evenings 11", x -> x.evenings(p, 11, 0));
            asked("without", x -> x.without(p));
            asked("coupons", x -> x.coupons(p));
            for (int other = 0; other < 4; other++) {
                int o = other;
                asked("both", x -> x.both(p, o));
            }
            for (int k = -1; k < 8; k++) {
                int kind = k;
                asked("taken", x -> x.taken(p, kind));
            }
        }
    }

    private static void askedOfAll() {
        for (int number = -1; number < 10; number++) {
            int n = number;
            asked("at", x -> x.at(n, 0));
            asked("at what", x -> x.at(0, n));
            asked("told", x -> x.told(n));
            asked("will", x -> x.will(n));
            asked("with", x -> x.with(n));
            asked("mean", x -> x.mean(n));
            asked("trace", x -> x.trace(n));
            asked("count", x -> x.count(n));
            asked("judge", x -> x.judge(n, 0));
            asked("judge place", x -> x.judge(3, n));
            asked("read", x -> x.read(n, 0));
            asked("read place", x -> x.read(0, n));
        }
        asked("who", MoreStory::who);
        asked("looked", MoreStory::looked);
        asked("none of the row", x -> x.shift(0, 0, 0, 0, 0));
    }

    /** That what is not refused is seen: on the same scenes, beside each refusal above. */
    private static void seen() {
        Due.sentence("a call that is not refused");
        change("thing", x -> x.thing(1, 0), 3);
        change("parent", x -> x.parent(0, 0), 3);
        change("habit", x -> x.habit(0, 5), 2);
        change("row", x -> x.row(0, 1, 1), 0);
        change("feed", x -> x.feed('e'), 4);
        change("house", MoreStory::house, -13);
        change("ask", x -> x.ask(0), 0);
        change("night", MoreStory::night, 0);
        change("hear", x -> x.hear(true), 3);
        change("hush", MoreStory::hush, 2);
        change("book", x -> x.book(1), 3);
        change("an empty book", x -> x.book(-1), 0);
        change("image", MoreStory::image, 3);
        change("undo", MoreStory::undo, 3);
        change("act", x -> x.act(0, 1, 5), 5);
        change("tape", x -> x.tape(2, 2, 3), 1);
        change("item", x -> x.item(2, 0, 9), 1);
        change("shift", x -> x.shift(2, 0, 2, 1, 2), 2);
        change("no act", x -> x.act(0, 3, 5), 0);
        change("an act of nobody", x -> x.act(3, 0, 5), 0);
    }

    private static void change(String name, Whole.Call call, long due) {
        Whole.changes(Whole::some, name, call, due);
    }

    public static void main(String[] args) {
        thing();
        parent();
        habit();
        row();
        texts();
        ask();
        heardAndBooks();
        tapes();
        shifts();
        Due.sentence("what is asked changes nothing");
        askedOfParents();
        askedOfAll();
        seen();
        Due.end();
    }
}
