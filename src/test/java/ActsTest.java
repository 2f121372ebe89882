/** Promises 32 to 34. */
public final class ActsTest {
    private static final int MIN = Integer.MIN_VALUE, MAX = Integer.MAX_VALUE;

    private static void act(MoreStory x, int parent, int act, int with, int due, int... trace) {
        Due.is("act " + parent + " " + act + " " + with, x.act(parent, act, with), due);
        Due.is("bodies", x.count(6), trace.length);
        for (int i = 0; i < 21; i++) Due.is("trace " + i, x.trace(i), i < trace.length ? trace[i] : -1);
    }

    private static void promise32And33() {
        MoreStory x = new MoreStory();
        Due.parents(x, 0, 3, 1, 4, 2, 1, 3, 2);
        act(x, 0, 0, 5, 5, 10);
        act(x, 0, 1, 5, 2, 11, 10);
        act(x, 0, 2, 5, 4, 12, 11, 10);
        act(x, 1, 0, 5, 6, 10);
        act(x, 1, 1, 5, 4, 20, 11, 10);
        act(x, 1, 2, 5, 8, 12, 20, 11, 10);
        act(x, 2, 0, 5, 17, 30, 10);
        act(x, 2, 1, 5, 16, 11, 30, 10);
        act(x, 2, 2, 5, 32, 12, 11, 30, 10);
        act(x, 3, 0, 5, 8, 10);
        act(x, 3, 1, 5, 6, 11, 10);
        act(x, 3, 2, 5, 14, 40, 12, 11, 10, 11, 10);
        act(x, 3, 0, MAX, MIN + 2, 10);
        act(x, 2, 0, 1 << 30, -(1 << 30) + 2, 30, 10);
        act(x, 0, 2, MIN, -6, 12, 11, 10);
        under();
        none(x);
    }

    private static void under() {
        MoreStory x = new MoreStory();
        Due.parents(x, 0, 0, 4, 5, 5, 4, 6, 6);
        act(x, 1, 0, 5, -6, 50, 10);
        act(x, 1, 1, 5, -14, 51, 20, 11, 50, 10);
        act(x, 1, 2, 5, -28, 12, 51, 20, 11, 50, 10);
        act(x, 2, 0, 5, 17, 30, 10);
        act(x, 2, 1, 5, 13, 11, 30, 10);
        act(x, 2, 2, 5, 14, 60, 12, 11, 30, 10);
        act(x, 3, 0, 5, 14, 71, 10);
        act(x, 3, 1, 5, 13, 70, 11, 71, 10, 10);
        act(x, 3, 2, 5, 27, 40, 12, 70, 11, 71, 10, 10, 70, 11, 71, 10, 10);
    }

    private static void none(MoreStory x) {
        for (int i : new int[] {-1, 4, MIN, MAX}) {
            act(x, 0, 2, 5, 4, 12, 11, 10);
            act(x, i, 0, 5, 0);
        }
        for (int act : new int[] {-1, 3, MIN, MAX}) {
            act(x, 0, 2, 5, 4, 12, 11, 10);
            act(x, 0, act, 5, 0);
        }
        act(x, 0, 1, 5, 2, 11, 10);
        for (int i : new int[] {-1, 2, 20, MIN, MAX}) Due.is("no body", x.trace(i), -1);
        Due.is("still there", x.trace(1), 10);
    }

    private static void promise34() {
        boolean[][] under = {
            {true, false, false, false, false, false, false}, {true, true, false, false, false, false, false},
            {true, false, true, false, false, false, false}, {true, false, false, true, false, false, false},
            {true, true, false, false, true, false, false}, {true, false, true, false, false, true, false},
            {true, false, false, true, false, false, true}};
        for (int kind = 0; kind < 7; kind++) {
            MoreStory x = new MoreStory();
            Due.parents(x, 0, 0, kind, 3);
            for (int k = 0; k < 7; k++) Due.is(kind + " for " + k, x.taken(1, k), under[kind][k] ? kind : -12);
            for (int k : new int[] {-1, 7, MIN, MAX}) Due.is("no kind", x.taken(1, k), -2);
            for (int k : new int[] {-1, 7}) Due.is("no kind of nobody", x.taken(2, k), -2);
            for (int i : new int[] {-1, 2, MIN, MAX}) Due.is("nobody", x.taken(i, 0), -11);
        }
    }

    public static void main(String[] args) {
        promise32And33();
        promise34();
        Due.end();
    }
}
