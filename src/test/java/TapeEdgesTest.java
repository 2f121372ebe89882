/** Promises 29 and 35 to 39: places, sorts and sizes of tapes from both sides, and how many there are of all. */
public final class TapeEdgesTest {
    private static final int MIN = Integer.MIN_VALUE, MAX = Integer.MAX_VALUE;
    private static final long NO = Long.MIN_VALUE;
    private static final long[] LEAST = {Byte.MIN_VALUE, Short.MIN_VALUE, Integer.MIN_VALUE, Long.MIN_VALUE, 0};
    private static final long[] MOST = {Byte.MAX_VALUE, Short.MAX_VALUE, Integer.MAX_VALUE, Long.MAX_VALUE, 1};

    private static void sizes() {
        Due.sentence("36: A TAPE becomes a row of n (0 .. 60) of a sort, all 0: 1");
        for (int sort = 0; sort < 5; sort++) {
            for (int n : new int[] {0, 1, 2, 59, 60}) {
                MoreStory x = new MoreStory();
                Due.is("tape of " + n, x.tape(sort, sort, n), 1);
                for (int i = 0; i < n; i++) Due.is("all 0", x.read(sort, i), 0);
                for (int i : new int[] {-1, n, n + 1, 60, MIN, MAX}) {
                    Due.is("place " + i + " of " + n, x.read(sort, i), NO);
                    Due.is("place " + i + " of " + n, x.item(sort, i, 1), -13);
                }
                if (n == 0) continue;
                Due.is("the first", x.item(sort, 0, 1), 1);
                Due.is("the last", x.item(sort, n - 1, 1), 1);
                Due.is("the first", x.read(sort, 0), 1);
                Due.is("the last", x.read(sort, n - 1), 1);
            }
            MoreStory x = new MoreStory();
            for (int n : new int[] {61, 62, MAX}) Due.is("n " + n, x.tape(5, sort, n), -2);
            for (int n : new int[] {-1, -2, MIN}) Due.is("n " + n, x.tape(5, sort, n), -14);
            Due.is("it holds nothing", x.item(5, 0, 0), -11);
        }
        Due.sentence("36: NONE: tape; BAD: sort");
        MoreStory x = new MoreStory();
        for (int tape = 0; tape < 6; tape++) Due.is("tape " + tape, x.tape(tape, 3, 2), 1);
        for (int tape : new int[] {-1, -2, 6, 7, MIN, MAX}) Due.is("tape " + tape, x.tape(tape, 3, 2), -1);
        for (int sort : new int[] {-2, -3, 5, 6, MIN, MAX}) Due.is("sort " + sort, x.tape(0, sort, 2), -2);
        for (int tape = 0; tape < 6; tape++) Due.is("a tape of its own", x.item(tape, 1, 10 + tape), 1);
        for (int tape = 0; tape < 6; tape++) Due.is("a tape of its own", x.read(tape, 1), 10 + tape);
        nothing();
    }

    private static void nothing() {
        Due.sentence("36: or holds nothing (sort -1: n does not matter): 1");
        for (int n : new int[] {0, 5, 60, 61, -1, MIN, MAX}) {
            MoreStory x = new MoreStory();
            Due.is("already", x.tape(0, -1, n), 1);
            x.tape(0, 3, 5);
            x.item(0, 1, 7);
            Due.is("n " + n, x.tape(0, -1, n), 1);
            Due.is("nothing to read", x.read(0, 1), NO);
            Due.is("no item", x.item(0, 1, 7), -11);
            Due.is("no place, but nothing first", x.item(0, -1, 7), -11);
            Due.is("no shift", x.shift(0, 0, 0, 0, 0), -11);
            x.tape(0, 3, 5);
            Due.is("all 0", x.read(0, 1), 0);
        }
        Due.sentence("36: all 0, whatever was there");
        MoreStory x = new MoreStory();
        for (int sort = 0; sort < 5; sort++) {
            x.tape(0, sort, 60);
            for (int i = 0; i < 60; i += 59) Due.is("0", x.read(0, i), 0);
            for (int i = 0; i < 60; i++) x.item(0, i, -1);
            x.tape(0, sort, 1);
            Due.is("0", x.read(0, 0), 0);
        }
        x.tape(0, 3, 60);
        for (int i = 0; i < 60; i++) Due.is("0 at " + i, x.read(0, i), 0);
    }

    private static void items() {
        Due.sentence("37: Item i becomes v (its lowest bits, as many as an item has; booleans: whether v is not 0)");
        for (int sort = 0; sort < 4; sort++) {
            MoreStory x = new MoreStory();
            x.tape(sort, sort, 3);
            long[][] all = {{0, 0}, {1, 1}, {-1, -1}, {LEAST[sort], LEAST[sort]}, {MOST[sort], MOST[sort]},
                {MOST[sort] + 1, LEAST[sort]}, {LEAST[sort] - 1, MOST[sort]}, {2 * MOST[sort] + 1, -1}, {2 * MOST[sort] + 2, 0},
                {2 * MOST[sort] + 3, 1}, {Long.MAX_VALUE, sort == 3 ? Long.MAX_VALUE : -1}, {Long.MIN_VALUE, sort == 3 ? Long.MIN_VALUE : 0}};
            for (long[] a : all) {
                Due.is("item", x.item(sort, 1, a[0]), 1);
                Due.is(a[0] + " of sort " + sort, x.read(sort, 1), a[1]);
                Due.is("ahead of it", x.read(sort, 0), 0);
                Due.is("behind it", x.read(sort, 2), 0);
            }
        }
        MoreStory x = new MoreStory();
        x.tape(0, 4, 1);
        for (long v : new long[] {0, 1, 0, 2, 0, -1, 0, 256, 0, 1L << 16, 0, 1L << 32, 0, Long.MIN_VALUE, 0, Long.MAX_VALUE}) {
            Due.is("item", x.item(0, 0, v), 1);
            Due.is("boolean of " + v, x.read(0, 0), v == 0 ? 0 : 1);
        }
        Due.sentence("37: NONE; NOTHING; PLACE");
        for (int tape : new int[] {-1, 6, MIN, MAX}) Due.is("tape " + tape, x.item(tape, 0, 1), -1);
        for (int tape = 1; tape < 6; tape++) Due.is("tape " + tape, x.item(tape, 0, 1), -11);
        for (int i : new int[] {-1, 1, MIN, MAX}) Due.is("place " + i, x.item(0, i, 1), -13);
        Due.sentence("38: NO: no such TAPE, nothing there, no such place");
        for (int tape : new int[] {-1, 6, MIN, MAX}) Due.is("tape " + tape, x.read(tape, 0), NO);
        for (int tape = 1; tape < 6; tape++) Due.is("tape " + tape, x.read(tape, 0), NO);
        for (int i : new int[] {-1, 1, MIN, MAX}) Due.is("place " + i, x.read(0, i), NO);
        Due.is("the only place", x.read(0, 0), 1);
    }

    /** Two tapes of longs, of 4 and of 3: 10 to 13 and 20 to 22. */
    private static MoreStory two() {
        MoreStory x = new MoreStory();
        x.tape(0, 3, 4);
        x.tape(5, 3, 3);
        for (int i = 0; i < 4; i++) x.item(0, i, 10 + i);
        for (int i = 0; i < 3; i++) x.item(5, i, 20 + i);
        return x;
    }

    /** All shifts between and within the two, against rows of the host's own. */
    private static void shifts() {
        Due.sentence("39: n items of a TAPE from i on come to another one (or the same) from j on, as they all were before: n");
        for (int i = -1; i <= 5; i++) {
            for (int j = -1; j <= 5; j++) {
                for (int n = -1; n <= 5; n++) {
                    shift(0, i, 5, j, n);
                    shift(5, i, 0, j, n);
                    shift(0, i, 0, j, n);
                }
            }
        }
        Due.sentence("39: PLACE: n, i or j is below 0, or beyond either's end");
        MoreStory x = two();
        int[][] far = {{MIN, 0, 0}, {0, MIN, 0}, {0, 0, MIN}, {MAX, 0, 0}, {0, MAX, 0}, {0, 0, MAX}, {MAX, 0, 1}, {0, MAX, 1},
            {1, 0, MAX}, {0, 1, MAX}, {MAX, MAX, MAX}, {MIN, MIN, MIN}, {MAX, 0, MIN}, {MIN, 0, MAX}, {2, 0, MAX - 1}};
        for (int[] f : far) {
            Due.is(f[0] + " " + f[1] + " " + f[2], x.shift(0, f[0], 5, f[1], f[2]), -13);
            Due.is(f[0] + " " + f[1] + " " + f[2], x.shift(0, f[0], 0, f[1], f[2]), -13);
        }
        Due.sentence("39: none of an empty row");
        x.tape(1, 3, 0);
        Due.is("of it", x.shift(1, 0, 0, 4, 0), 0);
        Due.is("to it", x.shift(0, 4, 1, 0, 0), 0);
        Due.is("beyond", x.shift(1, 1, 0, 0, 0), -13);
        Due.is("one", x.shift(1, 0, 0, 0, 1), -13);
        Due.is("one to it", x.shift(0, 0, 1, 0, 1), -13);
        Due.sentence("39: all 60");
        MoreStory all = new MoreStory();
        all.tape(2, 0, 60);
        all.tape(3, 0, 60);
        for (int i = 0; i < 60; i++) all.item(2, i, i);
        Due.is("61", all.shift(2, 0, 3, 0, 61), -13);
        Due.is("60", all.shift(2, 0, 3, 0, 60), 60);
        for (int i = 0; i < 60; i++) Due.is("came", all.read(3, i), i);
        Due.is("59 up", all.shift(3, 0, 3, 1, 59), 59);
        for (int i = 0; i < 60; i++) Due.is("came", all.read(3, i), i == 0 ? 0 : i - 1);
        unlike();
    }

    private static void shift(int tape, int i, int other, int j, int n) {
        MoreStory x = two();
        long[][] rows = {{10, 11, 12, 13}, {}, {}, {}, {}, {20, 21, 22}};
        long[] from = rows[tape].clone(), to = rows[other];
        boolean may = n >= 0 && i >= 0 && j >= 0 && i + n <= from.length && j + n <= to.length;
        String name = "shift " + tape + " " + i + " " + other + " " + j + " " + n;
        Due.is(name, x.shift(tape, i, other, j, n), may ? n : -13);
        for (int k = 0; may && k < n; k++) to[j + k] = from[i + k];
        for (int k = 0; k < 4; k++) Due.is(name + ", first row, " + k, x.read(0, k), rows[0][k]);
        for (int k = 0; k < 3; k++) Due.is(name + ", second row, " + k, x.read(5, k), rows[5][k]);
    }

    private static void unlike() {
        Due.sentence("39: NONE: tapes; NOTHING; CAST: of unlike sorts");
        for (int a = -1; a < 5; a++) {
            for (int b = -1; b < 5; b++) {
                MoreStory x = new MoreStory();
                x.tape(0, a, 2);
                x.tape(1, b, 2);
                x.item(0, 0, 1);
                int due = a < 0 || b < 0 ? -11 : a == b ? 2 : -12;
                Due.is(a + " to " + b, x.shift(0, 0, 1, 0, 2), due);
                Due.is(a + " to " + b + ", none", x.shift(0, 0, 1, 0, 0), due > 0 ? 0 : due);
                Due.is("came", x.read(1, 0), b < 0 ? NO : a == b ? 1 : 0);
            }
        }
        MoreStory x = two();
        for (int tape : new int[] {-1, 6, MIN, MAX}) {
            Due.is("from " + tape, x.shift(tape, 0, 0, 0, 0), -1);
            Due.is("to " + tape, x.shift(0, 0, tape, 0, 0), -1);
        }
        Due.is("5 to 0", x.shift(5, 0, 0, 0, 1), 1);
    }

    /** Habits 5, 6, 7 on a tape of longs from place 2 on, which ends behind so many of them. */
    private static MoreStory judged(int things, int told) {
        MoreStory x = new MoreStory();
        for (int t = 0; t < things; t++) {
            x.thing(1, 1);
            x.habit(t, 5 + t);
        }
        x.tape(5, 3, 2 + told);
        for (int t = 0; t < told; t++) x.item(5, 2 + t, 5 + t);
        return x;
    }

    private static void judge() {
        Due.sentence("29: -5: none, or there is none to look at; 100 and how many were looked at, if the row ends ahead of that");
        for (int things = 0; things <= 7; things++) {
            for (int told = 0; told <= 8; told++) {
                MoreStory x = judged(things, told);
                Due.is(things + " things, " + told + " told", x.judge(5, 2), told >= things ? -5 : 100 + told);
            }
        }
        Due.sentence("29: the first that is otherwise");
        for (int t = 0; t < 7; t++) {
            MoreStory x = judged(7, 7);
            x.item(5, 2 + t, 4 + t);
            Due.is("thing " + t + ", one less", x.judge(5, 2), t);
            x.item(5, 2 + t, 6 + t);
            Due.is("thing " + t + ", one more", x.judge(5, 2), t);
            x.item(5, 2 + t, 5 + t + (1L << 32));
            Due.is("thing " + t + ", as a long", x.judge(5, 2), t);
            x.item(5, 2 + t, -5 - t);
            Due.is("thing " + t + ", below 0", x.judge(5, 2), t);
            x.habit(6, 0);
            Due.is("the first of two", x.judge(5, 2), t);
            x.item(5, 2 + t, 5 + t);
            Due.is("the other one", x.judge(5, 2), 6);
        }
        MoreStory last = judged(3, 2);
        last.item(5, 3, 9);
        Due.is("otherwise ahead of the end", last.judge(5, 2), 1);
        MoreStory most = judged(1, 1);
        most.habit(0, 999);
        most.item(5, 2, 999);
        Due.is("999", most.judge(5, 2), -5);
        places();
    }

    private static void places() {
        Due.sentence("29: (or the place is below 0, or the TAPE holds nothing)");
        MoreStory x = judged(3, 3);
        for (int i : new int[] {-1, -2, -3, MIN, MIN + 1, 5, 6, 60, MAX, MAX - 1, MAX - 2}) Due.is("place " + i, x.judge(5, i), 100);
        Due.is("the last place", x.judge(5, 4), 0);
        Due.is("place 0", x.judge(5, 0), 0);
        for (int tape = 0; tape < 5; tape++) {
            Due.is("nothing, tape " + tape, x.judge(tape, 0), 100);
            Due.is("nothing, tape " + tape + ", place -1", x.judge(tape, -1), 100);
        }
        MoreStory none = judged(0, 2);
        for (int i : new int[] {-1, 0, 3, 4, 5, MIN, MAX}) Due.is("no things, place " + i, none.judge(5, i), -5);
        for (int tape = 0; tape < 5; tape++) Due.is("no things, nothing", none.judge(tape, 0), -5);
        Due.sentence("29: NONE: tape; CAST: it is no row of longs");
        for (int tape : new int[] {-1, 6, MIN, MAX}) {
            Due.is("tape " + tape, x.judge(tape, 0), -1);
            Due.is("tape " + tape + ", no things", none.judge(tape, 0), -1);
        }
        for (int sort = 0; sort < 5; sort++) {
            x.tape(0, sort, 60);
            none.tape(0, sort, 60);
            Due.is("sort " + sort, x.judge(0, 0), sort == 3 ? 0 : -12);
            Due.is("sort " + sort + ", place 60", x.judge(0, 60), sort == 3 ? 100 : -12);
            Due.is("sort " + sort + ", no things", none.judge(0, 0), sort == 3 ? -5 : -12);
            x.tape(0, sort, 0);
            Due.is("an empty row of sort " + sort, x.judge(0, 0), sort == 3 ? 100 : -12);
        }
    }

    private static void count(MoreStory x, String when, int... due) {
        for (int what = 0; what < 7; what++) Due.is(when + ", count " + what, x.count(what), due[what]);
    }

    private static void counts() {
        Due.sentence("35: How many: 0 PARENTS, 1 THINGS, 2 HOUSES, 3 HEARD, 4 of the BOOK, 5 bytes of THE TEXT, 6 bodies. BAD");
        MoreStory x = new MoreStory();
        count(x, "new", 0, 0, 0, 0, 0, 0, 0);
        x.parent(6, 1);
        count(x, "a parent", 1, 0, 0, 0, 0, 0, 0);
        x.thing(1, 1);
        count(x, "a thing", 1, 1, 0, 0, 0, 0, 0);
        Due.house(x, "late 5");
        count(x, "a house", 1, 1, 1, 0, 0, 0, 0);
        x.hear(false);
        count(x, "heard", 1, 1, 1, 1, 0, 0, 0);
        x.book(0);
        count(x, "the book", 1, 1, 1, 1, 1, 0, 0);
        x.feed(0);
        count(x, "a byte", 1, 1, 1, 1, 1, 1, 0);
        x.act(0, 2, 0);
        count(x, "an act", 1, 1, 1, 1, 1, 1, 12);
        x.act(0, 0, 0);
        count(x, "the latest act", 1, 1, 1, 1, 1, 1, 2);
        x.act(0, 3, 0);
        count(x, "no act", 1, 1, 1, 1, 1, 1, 0);
        MoreStory full = Whole.full();
        count(full, "full", 4, 7, 6, 8, 12, 100, 0);
        for (int what : new int[] {-1, -2, 7, 8, MIN, MAX}) Due.is("what " + what, full.count(what), -2);
    }

    public static void main(String[] args) {
        sizes();
        items();
        shifts();
        judge();
        counts();
        Due.end();
    }
}
