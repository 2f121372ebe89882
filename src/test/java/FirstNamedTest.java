/** "The first that a call's words name": where more than one refusal fits, each pair of them; and the empty start. */
public final class FirstNamedTest {
    private static final int MIN = Integer.MIN_VALUE, MAX = Integer.MAX_VALUE;
    private static final int NONE = -1, BAD = -2, STATE = -3, FULL = -4, NEVER = -5, MANY = -9;
    private static final int NOTHING = -11, CAST = -12, PLACE = -13, SIZE = -14;
    private static final long NO = Long.MIN_VALUE;
    private static final int[] BELOW_AND_ABOVE = {-1, 7, MIN, MAX};

    private static void things() {
        Due.sentence("2: BAD: minutes, sweet; FULL: 7");
        MoreStory x = Whole.full();
        for (int n : new int[] {0, 21, MIN, MAX}) Due.is("bad minutes, full " + n, x.thing(n, 0), BAD);
        for (int n : new int[] {-1, 10, MIN, MAX}) Due.is("bad sweet, full " + n, x.thing(1, n), BAD);
        Due.sentence("6: NONE; BAD");
        for (int t : BELOW_AND_ABOVE) {
            for (int n : new int[] {-1, 1000, MIN, MAX}) Due.is("no thing, bad n", x.habit(t, n), NONE);
        }
    }

    private static void parents() {
        Due.sentence("3: NONE: kind; BAD: v; FULL: 4");
        MoreStory x = new MoreStory(), y = Whole.full();
        for (int kind : BELOW_AND_ABOVE) {
            Due.is("no kind, bad v", x.parent(kind, 10), NONE);
            Due.is("no kind, bad v", x.parent(kind, -1), NONE);
            Due.is("no kind, full", y.parent(kind, 0), NONE);
            Due.is("no kind, bad v, full", y.parent(kind, 10), NONE);
        }
        for (int v : new int[] {-1, 10, MIN, MAX}) Due.is("bad v, full", y.parent(0, v), BAD);
        Due.sentence("7: NONE: parent, part; BAD; STATE: another KIND");
        Due.is("no parent, no part", y.row(4, 4, 0), NONE);
        Due.is("no parent, bad n", y.row(4, 0, 2), NONE);
        Due.is("no part, bad n", y.row(0, 4, 2), NONE);
        Due.is("no part, below, bad n", y.row(0, -1, -1), NONE);
        Due.is("no part, another kind", y.row(1, 4, 0), NONE);
        Due.is("no part, bad n, another kind", y.row(1, -1, 2), NONE);
        Due.is("bad n, another kind", y.row(1, 0, 2), BAD);
        Due.is("bad n below, another kind", y.row(1, 0, -1), BAD);
        Due.is("another kind", y.row(1, 0, 0), STATE);
    }

    private static void texts() {
        Due.sentence("8: BAD; FULL");
        MoreStory x = Whole.full();
        for (int sign : new int[] {-1, 128, MIN, MAX}) Due.is("bad, full", x.feed(sign), BAD);
        Due.is("full", x.feed(0), FULL);
        Due.sentence("9: FULL: there are 6 (THE TEXT stays); -10 less the FAULT");
        Due.is("full, a text with a fault", x.house(), FULL);
        MoreStory y = new MoreStory();
        for (int i = 0; i < 6; i++) Due.is("house", Due.house(y, "late 5"), i);
        Due.is("full, no text", y.house(), FULL);
        Due.is("full, a good text", Due.house(y, "late 7"), FULL);
        Due.is("it stays", y.count(5), 6);
        Due.is("the sixth holds", y.told(6), 5);
    }

    private static void asks() {
        Due.sentence("11: NONE; STATE: THE EVENING is over, or there are no THINGS");
        MoreStory x = Due.with("deep 0;late 0");
        for (int p : new int[] {-1, 0, MIN, MAX}) Due.is("nobody, over, no things", x.ask(p), NONE);
        Due.parents(x, 0, 0);
        Due.is("over, no things", x.ask(0), STATE);
        Due.sentence("14: NONE; BAD: n");
        for (int n : new int[] {-1, 61, MIN, MAX}) {
            Due.is("nobody, bad n", x.on(1, n, 0), NONE);
            Due.is("nobody below, bad n", x.on(-1, n, 0), NONE);
            Due.is("no what, bad n", x.on(0, n, 5), NONE);
            Due.is("no what below, bad n", x.on(0, n, -1), NONE);
            Due.is("bad n", x.on(0, n, 4), BAD);
        }
    }

    /** Nobody makes her sleep, so -5 is due of those who are there. */
    private static MoreStory awake() {
        MoreStory x = Due.with("deep 99");
        Due.minutes(x, 5, 5);
        Due.parents(x, 2, 0);
        return x;
    }

    private static void best() {
        MoreStory x = awake();
        Due.sentence("15: -5. NONE");
        for (int what : new int[] {-1, 2, MIN, MAX}) Due.is("no what, with none", x.with(what), NONE);
        Due.sentence("16: -5. NONE");
        Due.is("the other is nobody", x.both(0, 1), NONE);
        Due.is("the first is nobody", x.both(1, 0), NONE);
        Due.is("both are", x.both(-1, 4), NONE);
        Due.is("never", x.both(0, 0), NEVER);
        Due.sentence("17: -5. NONE");
        for (int what : new int[] {-1, 2, MIN, MAX}) Due.is("no what, by none", x.limit(0, what), NONE);
        Due.is("nobody", x.limit(1, 0), NONE);
        Due.is("by none", x.limit(0, 0), NEVER);
        Due.sentence("18: -5. NONE");
        Due.is("nobody", x.without(1), NONE);
        Due.is("no thing", x.without(0), NEVER);
        Due.sentence("20: -5. NONE");
        Due.is("nobody", x.coupons(1), NONE);
        Due.is("by none", x.coupons(0), NEVER);
        Due.sentence("21: NONE; BAD: n");
        for (int n : new int[] {0, 11, MIN, MAX}) {
            Due.is("nobody, bad n", x.evenings(1, n, 0), NONE);
            Due.is("no what, bad n", x.evenings(0, n, 3), NONE);
            Due.is("no what below, bad n", x.evenings(0, n, -1), NONE);
            Due.is("bad n", x.evenings(0, n, 2), BAD);
        }
    }

    private static void order() {
        Due.sentence("19: -5; -9. NONE: parent, k (-1 .. 4)");
        MoreStory x = awake();
        Due.is("fewer than k", x.order(0, 2), NEVER);
        Due.is("nobody, fewer than k", x.order(1, 2), NONE);
        for (int k : new int[] {-2, 5, MIN, MAX}) Due.is("no k", x.order(0, k), NONE);
        Due.minutes(x, 1, 1, 1, 1);
        for (int k = -1; k < 5; k++) Due.is("six things", x.order(0, k), MANY);
        for (int k : new int[] {-2, 5, MIN, MAX}) Due.is("no k, six things", x.order(0, k), NONE);
        for (int p : new int[] {-1, 1, MIN, MAX}) Due.is("nobody, six things", x.order(p, 0), NONE);
    }

    private static void oddsAndBooks() {
        Due.sentence("27: NONE; FULL: 12");
        MoreStory x = Whole.full();
        for (int p : new int[] {-2, 4, MIN, MAX}) Due.is("nobody, full", x.book(p), NONE);
        Due.is("full", x.book(0), FULL);
        Due.is("empty, though full", x.book(-1), 0);
        Due.sentence("29: NONE: tape; CAST: it is no row of longs; -5: none to look at; 100");
        MoreStory y = new MoreStory();
        y.tape(0, 2, 5);
        for (int tape : new int[] {-1, 6, MIN, MAX}) Due.is("no tape, no place, no things", y.judge(tape, -1), NONE);
        Due.is("ints, no things", y.judge(0, 0), CAST);
        Due.is("ints, no place, no things", y.judge(0, -1), CAST);
        Due.is("nothing there, no place, no things", y.judge(1, -1), NEVER);
        y.thing(1, 1);
        for (int tape : new int[] {-1, 6, MIN, MAX}) Due.is("no tape, no place", y.judge(tape, -1), NONE);
        Due.is("ints, no place", y.judge(0, 5), CAST);
        Due.is("nothing there, no place", y.judge(1, -1), 100);
    }

    private static void kindsAndTapes() {
        Due.sentence("34: BAD: k; NOTHING: no such PARENT; CAST");
        MoreStory x = new MoreStory();
        for (int k : BELOW_AND_ABOVE) Due.is("no kind, nobody", x.taken(0, k), BAD);
        Due.is("nobody", x.taken(0, 3), NOTHING);
        Due.parents(x, 0, 0);
        for (int k : BELOW_AND_ABOVE) Due.is("no kind", x.taken(0, k), BAD);
        Due.is("cast", x.taken(0, 3), CAST);
        Due.sentence("36: NONE: tape; BAD: sort, n above 60; SIZE");
        for (int tape : new int[] {-1, 6}) {
            Due.is("no tape, no sort", x.tape(tape, 5, 1), NONE);
            Due.is("no tape, n above", x.tape(tape, 0, 61), NONE);
            Due.is("no tape, n below", x.tape(tape, 0, -1), NONE);
            Due.is("no tape, nothing", x.tape(tape, -1, 0), NONE);
        }
        Due.is("no sort, n below", x.tape(0, 5, -1), BAD);
        Due.is("no sort below, n below", x.tape(0, -2, -1), BAD);
        Due.is("n below", x.tape(0, 4, -1), SIZE);
        Due.sentence("37: NONE; NOTHING; PLACE");
        Due.is("no tape, no place", x.item(6, -1, 0), NONE);
        Due.is("nothing, no place", x.item(5, -1, 0), NOTHING);
    }

    private static void shifts() {
        Due.sentence("39: NONE: tapes; NOTHING; CAST: of unlike sorts; PLACE");
        MoreStory x = new MoreStory();
        x.tape(0, 0, 2);
        x.tape(1, 1, 2);
        Due.is("no tape, nothing", x.shift(6, 0, 5, 0, 0), NONE);
        Due.is("nothing, no tape", x.shift(5, 0, 6, 0, 0), NONE);
        Due.is("no tape, no place", x.shift(0, -1, -1, 0, 0), NONE);
        Due.is("nothing, no place", x.shift(5, -1, 0, 0, 0), NOTHING);
        Due.is("to nothing, no place", x.shift(0, 3, 5, 0, 0), NOTHING);
        Due.is("unlike, no place", x.shift(0, -1, 1, 0, 0), CAST);
        Due.is("unlike, no place there", x.shift(0, 0, 1, 3, 0), CAST);
        Due.is("unlike, n below", x.shift(1, 0, 0, 0, -1), CAST);
        Due.is("no place", x.shift(0, -1, 0, 0, 0), PLACE);
    }

    private static void first(String name, long got, long due) {
        Due.is("on a new object: " + name, got, due);
    }

    private static MoreStory anew() {
        return new MoreStory();
    }

    /** Each call as the first one. */
    private static void emptyStart() {
        Due.sentence("1: No THINGS, no PARENTS, no HOUSE");
        first("thing", anew().thing(1, 0), 0);
        first("parent", anew().parent(0, 0), 0);
        for (int what = 0; what < 3; what++) first("at", anew().at(0, what), NONE);
        for (int what : new int[] {0, 1, 10, 20, 30}) first("of", anew().of(0, what), NONE);
        first("habit", anew().habit(0, 0), NONE);
        first("row", anew().row(0, 0, 0), NONE);
        first("feed", anew().feed(0), 1);
        first("house", anew().house(), -10);
        int[] told = {0, 0, 0, 0, 0, 0, 60, 30, 0};
        for (int what = 0; what < 9; what++) first("told " + what, anew().told(what), told[what]);
        first("ask", anew().ask(0), NONE);
        first("night", anew().night(), 0);
        first("will", anew().will(0), NONE);
        first("on", anew().on(0, 0, 0), NONE);
        first("with 0", anew().with(0), NEVER);
        first("with 1", anew().with(1), NEVER);
        first("both", anew().both(0, 0), NONE);
        first("limit", anew().limit(0, 0), NONE);
        first("without", anew().without(0), NONE);
        first("order", anew().order(0, -1), NONE);
        first("coupons", anew().coupons(0), NONE);
        first("evenings", anew().evenings(0, 1, 0), NONE);
        first("hear", anew().hear(true), 1);
        first("hush", anew().hush(), 0);
        first("who", anew().who(), 0);
        for (int part = 0; part < 2; part++) first("odds", anew().odds(0, part), NO);
        for (int part = 0; part < 2; part++) first("mean", anew().mean(part), NO);
        first("book", anew().book(0), NONE);
        first("book empty", anew().book(-1), 0);
        first("looked", anew().looked(), NEVER);
    }

    private static void emptyTapes() {
        for (int tape = 0; tape < 6; tape++) {
            first("judge", anew().judge(tape, 0), NEVER);
            first("tape", anew().tape(tape, 0, 0), 1);
            first("item", anew().item(tape, 0, 0), NOTHING);
            first("read", anew().read(tape, 0), NO);
            first("shift", anew().shift(tape, 0, tape, 0, 0), NOTHING);
        }
        first("image", anew().image(), 0);
        first("undo", anew().undo(), STATE);
        first("act", anew().act(0, 0, 5), 0);
        first("trace", anew().trace(0), NONE);
        first("taken", anew().taken(0, 0), NOTHING);
        for (int what = 0; what < 7; what++) first("count " + what, anew().count(what), 0);
    }

    /** Somebody, but no things: nothing can be asked for. */
    private static void noThings() {
        Due.sentence("no THINGS");
        MoreStory x = new MoreStory();
        Due.parents(x, 4, 9);
        Due.is("of", x.of(0, 10), NONE);
        Due.is("ask", x.ask(0), STATE);
        Due.is("will", x.will(0), NONE);
        for (int what = 0; what < 5; what++) Due.is("on", x.on(0, 60, what), 0);
        Due.is("with", x.with(0), NEVER);
        Due.is("both", x.both(0, 0), NEVER);
        Due.is("limit", x.limit(0, 0), NEVER);
        Due.is("without", x.without(0), NEVER);
        Due.is("order", x.order(0, -1), 0);
        for (int k = 0; k < 5; k++) Due.is("order", x.order(0, k), NEVER);
        Due.is("coupons", x.coupons(0), NEVER);
        for (int what = 0; what < 3; what++) Due.is("evenings", x.evenings(0, 10, what), 0);
        Due.is("odds", x.odds(0, 0), NO);
        Due.is("odds", x.odds(0, 1), NO);
        Due.is("mean", x.mean(0), 0);
        Due.is("mean", x.mean(1), 1);
        Due.is("who", x.who(), 1);
        x.hear(false);
        Due.is("who, heard", x.who(), 0);
    }

    private static void nobody() {
        Due.sentence("no PARENTS");
        MoreStory x = new MoreStory();
        x.thing(5, 5);
        Due.is("will", x.will(0), 0);
        Due.is("with 0", x.with(0), NEVER);
        Due.is("with 1", x.with(1), NEVER);
        Due.is("who", x.who(), 0);
        x.hear(true);
        Due.is("who, heard", x.who(), 0);
        Due.is("mean", x.mean(0), NO);
        Due.is("mean", x.mean(1), NO);
        Due.is("odds", x.odds(0, 0), NO);
        Due.is("looked", x.looked(), NEVER);
        Due.is("image", x.image(), 0);
        Due.is("undo", x.undo(), 0);
        MoreStory asleep = Due.with("deep 0");
        Due.is("asleep, with nobody", asleep.with(0), NEVER);
        Due.is("asleep, with nobody", asleep.with(1), NEVER);
    }

    public static void main(String[] args) {
        things();
        parents();
        texts();
        asks();
        best();
        order();
        oddsAndBooks();
        kindsAndTapes();
        shifts();
        emptyStart();
        emptyTapes();
        noThings();
        nobody();
        Due.end();
    }
}
