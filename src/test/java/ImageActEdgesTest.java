/** Promises 30 to 34: what the image holds and what not, acts that wrap around, no such parent, act, body, kind. */
public final class ImageActEdgesTest {
    private static final int MIN = Integer.MIN_VALUE, MAX = Integer.MAX_VALUE;

    private static void image() {
        Due.sentence("30: THE IMAGE is taken: how many PARENTS there are");
        for (int parents = 0; parents <= 4; parents++) {
            MoreStory x = new MoreStory();
            for (int p = 0; p < parents; p++) x.parent(p, p);
            Due.is("image of " + parents, x.image(), parents);
            Due.is("once more", x.image(), parents);
            for (int p = parents; p < 4; p++) x.parent(p, p);
            Due.is("undo to " + parents, x.undo(), parents);
            Due.is("so many", x.count(0), parents);
            Due.is("none behind them", x.of(parents, 0), -1);
            if (parents < 4) Due.is("the next", x.parent(6, 9), parents);
            else Due.is("full", x.parent(6, 9), -4);
        }
        Due.sentence("31: All is as THE IMAGE: how many PARENTS. STATE: there is none");
        MoreStory x = new MoreStory();
        Due.is("none", x.undo(), -3);
        x.parent(0, 0);
        Due.is("none still", x.undo(), -3);
        Due.is("the parent stays", x.count(0), 1);
        x.image();
        for (int i = 0; i < 3; i++) {
            x.parent(1, 1);
            Due.is("as often as asked", x.undo(), 1);
            Due.is("one", x.count(0), 1);
        }
    }

    private static void things() {
        Due.sentence("31: THE IMAGE: THINGS, HABITS");
        for (int things = 0; things <= 7; things++) {
            MoreStory x = new MoreStory();
            for (int t = 0; t < things; t++) {
                x.thing(t + 1, t);
                x.habit(t, 10 + t);
            }
            x.image();
            for (int t = things; t < 7; t++) x.thing(20, 9);
            for (int t = 0; t < 7; t++) x.habit(t, 999);
            Due.is("full", x.thing(1, 1), -4);
            x.undo();
            Due.is("things", x.count(1), things);
            for (int t = 0; t < 7; t++) {
                Due.is("minutes", x.at(t, 0), t < things ? t + 1 : -1);
                Due.is("sweet", x.at(t, 1), t < things ? t : -1);
                Due.is("habit", x.at(t, 2), t < things ? 10 + t : -1);
            }
            if (things == 7) continue;
            Due.is("the next", x.thing(3, 3), things);
            Due.is("its habit", x.at(things, 2), 0);
        }
    }

    private static void parents() {
        Due.sentence("31: THE IMAGE: PARENTS with all that is theirs");
        MoreStory x = new MoreStory();
        Due.minutes(x, 1);
        Due.parents(x, 6, 9, 2, 5, 6, 3, 4, 0);
        x.row(0, 1, 0);
        x.row(2, 3, 0);
        x.image();
        for (int part = 0; part < 4; part++) {
            x.row(0, part, part % 2);
            x.row(2, part, 0);
        }
        Due.is("undo", x.undo(), 4);
        for (int part = 0; part < 4; part++) {
            Due.is("row of 0, " + part, x.row(0, part, 1), part == 1 ? 0 : 1);
            Due.is("row of 2, " + part, x.row(2, part, 1), part == 3 ? 0 : 1);
        }
        int[] kinds = {6, 2, 6, 4}, v = {9, 5, 3, 0};
        for (int p = 0; p < 4; p++) Due.is("kind and v", x.of(p, 0) * 10 + x.of(p, 1), kinds[p] * 10 + v[p]);
        Due.sentence("31: a PARENT who comes in another's place is as new");
        MoreStory y = new MoreStory();
        y.image();
        Due.parents(y, 6, 9);
        for (int part = 0; part < 4; part++) y.row(0, part, 0);
        y.undo();
        Due.parents(y, 2, 3);
        Due.is("kind", y.of(0, 0), 2);
        Due.is("v", y.of(0, 1), 3);
        y.undo();
        Due.parents(y, 6, 1);
        Due.is("v", y.of(0, 1), 1);
        for (int part = 0; part < 4; part++) Due.is("row", y.row(0, part, 1), 1);
    }

    private static void evening() {
        Due.sentence("31: THE IMAGE: THE EVENING, EVENING");
        MoreStory x = Due.with("late 50;deep 50");
        Due.minutes(x, 5, 6, 7);
        Due.parents(x, 3, 9, 2, 0);
        for (int i = 0; i < 3; i++) x.night();
        Due.asks(x, 0, 4);
        Due.asks(x, 1, 1);
        int[] due = {3, 24, 14, 1, 4, 2, 50, 50, 0};
        for (int what = 0; what < 9; what++) Due.is("told " + what, x.told(what), due[what]);
        x.image();
        Due.asks(x, 1, 40);
        x.night();
        Due.asks(x, 0, 2);
        x.undo();
        for (int what = 0; what < 9; what++) Due.is("told " + what, x.told(what), due[what]);
        Due.asks(x, 1, 40);
        Due.is("over", x.told(8), 2);
        x.image();
        x.night();
        x.undo();
        Due.is("over again", x.told(8), 2);
        Due.is("no ask", x.ask(0), -3);
    }

    private static void heardAndBook() {
        Due.sentence("31: THE IMAGE: HEARD, the BOOK");
        MoreStory x = Due.with("late 99;deep 99");
        Due.minutes(x, 1);
        Due.parents(x, 3, 9, 2, 0, 2, 1);
        x.hear(true);
        x.hear(false);
        x.book(0);
        x.book(0);
        x.book(1);
        x.image();
        x.hush();
        for (int i = 0; i < 8; i++) x.hear(true);
        x.book(-1);
        for (int i = 0; i < 12; i++) x.book(2);
        Due.is("who then", x.who(), 1);
        Due.is("looked then", x.looked(), 1);
        x.undo();
        Due.is("heard", x.count(3), 2);
        Due.is("who", x.who(), 4);
        Due.is("of the book", x.count(4), 3);
        Due.is("looked", x.looked(), 2);
        Due.is("one more heard", x.hear(false), 3);
        Due.is("one more of the book", x.book(1), 4);
        MoreStory full = Whole.full();
        full.image();
        full.hush();
        full.book(-1);
        full.undo();
        Due.is("a ninth", full.hear(true), -4);
        Due.is("a thirteenth", full.book(0), -4);
    }

    private static void houses() {
        Due.sentence("31: THE IMAGE: which HOUSE holds");
        MoreStory x = new MoreStory();
        Due.minutes(x, 1);
        Due.parents(x, 0, 0);
        x.image();
        Due.is("first", Due.house(x, "late 11;deep 12;calm 7 p=0;fuss 8 p=0"), 0);
        x.undo();
        int[] none = {60, 30, 4, 2};
        house(x, none);
        Due.is("how many houses", x.count(2), 1);
        Due.is("second", Due.house(x, "late 21;calm 5 p=0;calm 1 p=0"), 1);
        int[] second = {21, 30, 6, 2};
        house(x, second);
        x.image();
        Due.is("third", Due.house(x, "deep 31;fuss 5 p=0"), 2);
        int[] third = {60, 31, 4, 5};
        house(x, third);
        Due.is("a fault", Due.house(x, "deep 31;fuss"), -22);
        house(x, third);
        x.undo();
        house(x, second);
        for (int i = 3; i < 6; i++) Due.is("house", Due.house(x, "late 4" + i), i);
        x.undo();
        house(x, second);
        Due.is("there are six all the same", Due.house(x, "late 9"), -4);
        Due.is("six", x.count(2), 6);
        house(x, second);
        beside();
    }

    private static void house(MoreStory x, int... due) {
        int[] got = {x.told(6), x.told(7), x.of(0, 20), x.of(0, 30)};
        for (int i = 0; i < 4; i++) Due.is("late, deep, calm, fuss: " + i, got[i], due[i]);
    }

    private static void beside() {
        Due.sentence("31: what is not in THE IMAGE stays: THE TEXT, TAPES, THE TRACE");
        MoreStory x = new MoreStory();
        Due.parents(x, 2, 0);
        Due.text(x, "lat");
        x.tape(0, 3, 2);
        x.item(0, 1, 5);
        x.act(0, 0, 1);
        x.image();
        Due.text(x, "e 5");
        x.tape(1, 0, 1);
        x.item(0, 1, 6);
        x.act(0, 1, 1);
        x.undo();
        Due.is("text", x.count(5), 6);
        Due.is("a tape", x.read(1, 0), 0);
        Due.is("an item", x.read(0, 1), 6);
        Due.is("bodies", x.count(6), 3);
        Due.is("trace", x.trace(0), 11);
        Due.is("house", x.house(), 0);
    }

    private static void act(MoreStory x, int parent, int act, int with, int due, int... trace) {
        Due.is("act " + parent + " " + act + " " + with, x.act(parent, act, with), due);
        Due.is("bodies", x.count(6), trace.length);
        for (int i = 0; i < trace.length; i++) Due.is("trace " + i, x.trace(i), trace[i]);
        for (int i : new int[] {-1, -2, trace.length, trace.length + 1, 19, 20, 21, MIN, MAX}) Due.is("trace " + i, x.trace(i), -1);
    }

    private static void wraps() {
        Due.sentence("32: with x (wrapping)");
        MoreStory x = new MoreStory();
        Due.parents(x, 4, 9, 2, 9, 5, 9, 6, 9);
        act(x, 0, 0, MIN, MIN, 50, 10);
        act(x, 0, 0, MAX, -MAX, 50, 10);
        act(x, 0, 1, MAX, (MIN - 9) ^ 6, 51, 20, 11, 50, 10);
        act(x, 0, 2, MAX, ((MIN - 9) ^ 6) * 2, 12, 51, 20, 11, 50, 10);
        act(x, 1, 0, MAX, MAX * 3 + 1, 30, 10);
        act(x, 1, 0, MIN, MIN * 3 + 1, 30, 10);
        act(x, 1, 1, MIN, MIN * 3 + 1 - 9, 11, 30, 10);
        act(x, 1, 2, MIN, (MIN * 3 + 1 - 9) * 2, 12, 11, 30, 10);
        act(x, 2, 2, MIN, ((MIN - 2) * 3 + 2 - 9) * 2, 60, 12, 11, 30, 10);
        act(x, 2, 2, MIN + 2, (MIN * 3 + 2 - 9) * 2, 60, 12, 11, 30, 10);
        act(x, 3, 0, MAX, (MAX + 3) ^ 9, 71, 10);
        act(x, 3, 1, MAX, ((MAX + 3) ^ 9) - 9 + 5, 70, 11, 71, 10, 10);
        act(x, 3, 2, MAX, (((MAX + 3) ^ 9) - 9 + 5) * 2 + (4 ^ 9) - 9 + 5, 40, 12, 70, 11, 71, 10, 10, 70, 11, 71, 10, 10);
        act(x, 3, 2, MIN, (((MIN + 3) ^ 9) - 9 + 5) * 2 + (4 ^ 9) - 9 + 5, 40, 12, 70, 11, 71, 10, 10, 70, 11, 71, 10, 10);
    }

    private static void none() {
        Due.sentence("32: 0, and no TRACE then: no such PARENT, act");
        MoreStory x = new MoreStory();
        for (int p : new int[] {-1, 0, 1, MIN, MAX}) act(x, p, 0, 5, 0);
        for (int parents = 1; parents <= 4; parents++) {
            Due.parents(x, 2, 5);
            int last = parents - 1;
            for (int p : new int[] {-1, parents, MIN, MAX}) {
                act(x, last, 0, 5, 15 + last, 30, 10);
                act(x, p, 0, 5, 0);
            }
            for (int a : new int[] {-1, -2, 3, 4, MIN, MAX}) {
                act(x, last, 1, 5, 10 + last, 11, 30, 10);
                act(x, last, a, 5, 0);
            }
            act(x, last, 2, 5, 20 + 2 * last, 12, 11, 30, 10);
        }
        Due.sentence("33: THE TRACE: of the latest act(), whatever is asked behind it");
        act(x, 0, 0, 5, 15, 30, 10);
        x.act(0, 1, 5);
        x.on(0, 60, 0);
        x.image();
        x.undo();
        Due.is("the first", x.trace(0), 11);
        Due.is("the last", x.trace(2), 10);
        Due.is("none behind it", x.trace(3), -1);
        Due.is("a new object has none", new MoreStory().trace(0), -1);
    }

    private static void taken() {
        Due.sentence("34: A PARENT taken for one of KIND k (0 .. 6), or one under that: its KIND. BAD: k; NOTHING: no such PARENT; CAST");
        int[] above = {-1, 0, 0, 0, 1, 2, 3};
        for (int kind = 0; kind <= 6; kind++) {
            MoreStory x = new MoreStory();
            Due.is("nobody yet", x.taken(0, kind), -11);
            Due.parents(x, kind, 9);
            for (int k = 0; k <= 6; k++) {
                boolean under = k == kind || k == above[kind] || k == 0;
                Due.is(kind + " for " + k, x.taken(0, k), under ? kind : -12);
            }
            for (int k : new int[] {-1, -2, 7, 8, MIN, MAX}) Due.is("k " + k, x.taken(0, k), -2);
            for (int p : new int[] {-1, 1, 4, MIN, MAX}) {
                Due.is("parent " + p, x.taken(p, kind), -11);
                Due.is("parent " + p + ", no k", x.taken(p, 7), -2);
            }
        }
        MoreStory x = new MoreStory();
        Due.parents(x, 0, 0, 1, 0, 4, 0, 6, 0);
        int[] due = {0, 1, 4, 6};
        for (int p = 0; p < 4; p++) Due.is("the number " + p, x.taken(p, 0), due[p]);
        Due.is("behind the last", x.taken(4, 0), -11);
    }

    /** The last of the calls that are promised is answered as the first ones are. */
    private static void lastCall() {
        Due.sentence("An object is used for at most 512 calls");
        MoreStory nights = new MoreStory();
        for (int i = 0; i < 511; i++) nights.night();
        Due.is("511 nights", nights.told(0), 511);
        MoreStory born = new MoreStory();
        born.image();
        for (int i = 0; i < 255; i++) {
            Due.is("born", born.parent(i % 7, i % 10), 0);
            if (i < 254) Due.is("undone", born.undo(), 0);
        }
        Due.is("the last born", born.of(0, 0) * 10 + born.of(0, 1), 254 % 7 * 10 + 254 % 10);
        MoreStory texts = new MoreStory();
        for (int i = 0; i < 511; i++) Due.is("a text with a fault", texts.house(), -10);
        Due.is("a sign", texts.feed('l'), 1);
        MoreStory tapes = new MoreStory();
        for (int i = 0; i < 511; i++) tapes.tape(i % 6, i % 5, 60);
        Due.is("an item", tapes.item(510 % 6, 59, 1), 1);
    }

    public static void main(String[] args) {
        lastCall();
        image();
        things();
        parents();
        evening();
        heardAndBook();
        houses();
        wraps();
        none();
        taken();
        Due.end();
    }
}
