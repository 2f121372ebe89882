/** Promises 35 to 39. */
public final class CountTapesTest {
    private static final int MIN = Integer.MIN_VALUE, MAX = Integer.MAX_VALUE;
    private static final long NO = Long.MIN_VALUE;

    private static void promise35() {
        MoreStory x = Due.with("late 9");
        Due.house(x, "late 8");
        Due.parents(x, 0, 0, 1, 1, 3, 3);
        Due.things(x, 1, 1, 2, 2, 3, 3, 4, 4);
        for (int i = 0; i < 5; i++) x.hear(true);
        for (int i = 0; i < 6; i++) x.book(0);
        for (int i = 0; i < 7; i++) x.feed(0);
        x.act(2, 2, 0);
        int[] due = {3, 4, 2, 5, 6, 7, 6};
        for (int what = 0; what < 7; what++) Due.is("count " + what, x.count(what), due[what]);
        for (int what : new int[] {-1, 7, MIN, MAX}) Due.is("no what", x.count(what), -2);
    }

    private static void promise36() {
        MoreStory x = new MoreStory();
        for (int tape : new int[] {-1, 6, MIN, MAX}) Due.is("no tape", x.tape(tape, 9, 99), -1);
        for (int sort : new int[] {-2, 5, MIN, MAX}) Due.is("no sort", x.tape(0, sort, -1), -2);
        for (int sort = 0; sort < 5; sort++) {
            for (int n : new int[] {61, MAX}) Due.is("n " + n, x.tape(0, sort, n), -2);
            for (int n : new int[] {-1, MIN}) Due.is("n " + n, x.tape(0, sort, n), -14);
            Due.is("nothing still", x.item(0, 0, 1), -11);
        }
        for (int sort = 0; sort < 5; sort++) {
            Due.is("tape", x.tape(sort, sort, 60), 1);
            Due.is("the first", x.read(sort, 0), 0);
            Due.is("the last", x.read(sort, 59), 0);
            Due.is("beyond", x.read(sort, 60), NO);
            for (int i = 0; i < 60; i++) x.item(sort, i, 1);
            Due.is("tape anew", x.tape(sort, sort, 60), 1);
            for (int i = 0; i < 60; i++) Due.is("all 0", x.read(sort, i), 0);
        }
        Due.is("of none", x.tape(5, 0, 0), 1);
        Due.is("no place", x.item(5, 0, 0), -13);
        Due.is("bad changes nothing", x.tape(4, 4, 61), -2);
        Due.is("still", x.read(4, 59), 0);
        for (int n : new int[] {-1, 99, MIN, MAX, 5}) {
            x.tape(4, 1, 3);
            Due.is("nothing", x.tape(4, -1, n), 1);
            Due.is("holds nothing", x.read(4, 0), NO);
            Due.is("holds nothing", x.item(4, 0, 0), -11);
        }
    }

    private static void item(MoreStory x, int tape, long v, long due) {
        Due.is("item", x.item(tape, 1, v), 1);
        Due.is("item of sort " + tape + ", " + v, x.read(tape, 1), due);
        Due.is("ahead of it", x.read(tape, 0), 0);
        Due.is("behind it", x.read(tape, 2), 0);
    }

    private static void promise37And38() {
        MoreStory x = new MoreStory();
        for (int sort = 0; sort < 5; sort++) x.tape(sort, sort, 3);
        long[] values = {0, 1, -1, 127, 128, 255, 256, 32767, 32768, 70000, 1L << 31, (1L << 31) - 1, 1L << 32, 9999999999L,
            Long.MAX_VALUE, Long.MIN_VALUE, Long.MIN_VALUE + 1};
        for (long v : values) {
            item(x, 0, v, (byte) v);
            item(x, 1, v, (short) v);
            item(x, 2, v, (int) v);
            item(x, 3, v, v);
            item(x, 4, v, v == 0 ? 0 : 1);
        }
        for (int i : new int[] {-1, 3, 60, MIN, MAX}) {
            Due.is("no place", x.item(3, i, 5), -13);
            Due.is("no place", x.read(3, i), NO);
            Due.is("nothing there", x.item(5, i, 5), -11);
            Due.is("nothing there", x.read(5, i), NO);
        }
        for (int tape : new int[] {-1, 6, MIN, MAX}) {
            Due.is("no tape", x.item(tape, 0, 5), -1);
            Due.is("no tape", x.read(tape, 0), NO);
        }
        Due.is("the first", x.item(3, 0, 5), 1);
        Due.is("the last", x.item(3, 2, 6), 1);
        Due.is("the first", x.read(3, 0), 5);
        Due.is("the last", x.read(3, 2), 6);
    }

    private static MoreStory counted() {
        MoreStory x = new MoreStory();
        x.tape(0, 2, 6);
        x.tape(1, 2, 4);
        x.tape(2, 3, 6);
        for (int i = 0; i < 6; i++) x.item(0, i, 10 + i);
        for (int i = 0; i < 4; i++) x.item(1, i, 20 + i);
        return x;
    }

    private static void row(MoreStory x, int tape, long... due) {
        for (int i = 0; i <= due.length; i++) Due.is("row " + tape + " " + i, x.read(tape, i), i < due.length ? due[i] : NO);
    }

    private static void promise39() {
        MoreStory x = counted();
        Due.is("to another", x.shift(0, 1, 1, 2, 2), 2);
        row(x, 1, 20, 21, 11, 12);
        row(x, 0, 10, 11, 12, 13, 14, 15);
        Due.is("up", x.shift(0, 0, 0, 2, 4), 4);
        row(x, 0, 10, 11, 10, 11, 12, 13);
        Due.is("down", x.shift(0, 1, 0, 0, 5), 5);
        row(x, 0, 11, 10, 11, 12, 13, 13);
        Due.is("all", x.shift(1, 0, 0, 2, 4), 4);
        row(x, 0, 11, 10, 20, 21, 11, 12);
        Due.is("none, at the ends", x.shift(0, 6, 1, 4, 0), 0);
        int[][] none = {{-1, 0}, {6, 0}, {0, -1}, {0, 6}, {MIN, 0}, {0, MAX}, {-1, 5}, {5, 6}};
        for (int[] n : none) Due.is("no tape", x.shift(n[0], -1, n[1], -1, -1), -1);
        int[][] nothing = {{5, 0}, {0, 5}, {5, 5}, {2, 5}};
        for (int[] n : nothing) Due.is("nothing there", x.shift(n[0], -1, n[1], -1, -1), -11);
        Due.is("unlike", x.shift(0, -1, 2, -1, -1), -12);
        Due.is("unlike, none", x.shift(2, 0, 0, 0, 0), -12);
        int[][] no = {{-1, 0, 1}, {0, -1, 1}, {0, 0, -1}, {7, 0, 0}, {0, 5, 0}, {3, 0, 4}, {0, 1, 4}, {0, 0, 5}, {6, 0, 1},
            {MAX, 0, 1}, {0, MAX, 1}, {1, 1, MAX}, {MAX, MAX, MAX}, {MIN, 0, 0}, {0, MIN, 0}, {0, 0, MIN}};
        for (int[] n : no) Due.is("no such place", x.shift(0, n[0], 1, n[1], n[2]), -13);
        row(x, 0, 11, 10, 20, 21, 11, 12);
        row(x, 1, 20, 21, 11, 12);
        for (int sort = 0; sort < 5; sort++) {
            x.tape(3, sort, 2);
            x.tape(4, sort, 60);
            x.item(3, 0, 1);
            Due.is("of sort " + sort, x.shift(3, 0, 4, 58, 2), 2);
            Due.is("came", x.read(4, 58), 1);
        }
    }

    public static void main(String[] args) {
        promise35();
        promise36();
        promise37And38();
        promise39();
        Due.end();
    }
}
