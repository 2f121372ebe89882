import java.util.Arrays;

/** All that calls tell of an object, as one row of numbers, and the scenes that refused calls are tried on. */
final class Whole {
    interface Call { long by(MoreStory x); }

    interface Scene { MoreStory anew(); }

    private Whole() { }

    /** What can be asked without changing anything. */
    static long[] told(MoreStory x) {
        long[] all = new long[160];
        int n = 0;
        for (int what = 0; what <= 8; what++) all[n++] = x.told(what);
        for (int what = 0; what <= 6; what++) all[n++] = x.count(what);
        for (int t = 0; t < 7; t++) {
            for (int what = 0; what < 3; what++) all[n++] = x.at(t, what);
        }
        for (int p = 0; p < 4; p++) {
            for (int what : new int[] {0, 1, 10, 11, 12, 20, 21, 30, 31}) all[n++] = x.of(p, what);
        }
        for (int tape = 0; tape < 6; tape++) {
            for (int i : new int[] {0, 1, 2, 3, 59}) all[n++] = x.read(tape, i);
        }
        for (int i = 0; i < 4; i++) all[n++] = x.trace(i);
        all[n++] = x.who();
        all[n++] = x.looked();
        return Arrays.copyOf(all, n);
    }

    /** Looks deeper, and uses the object up: rows, the text's signs, the image. */
    static long[] end(MoreStory x) {
        long[] ahead = told(x), rows = new long[20];
        int n = 0;
        for (int part = 0; part < 4; part++) rows[n++] = x.row(0, part, 1);
        for (char sign : "e 7".toCharArray()) rows[n++] = x.feed(sign);
        rows[n++] = x.house();
        rows[n++] = x.told(6);
        rows[n++] = x.undo();
        long[] behind = told(x), all = Arrays.copyOf(ahead, ahead.length + n + behind.length);
        System.arraycopy(rows, 0, all, ahead.length, n);
        System.arraycopy(behind, 0, all, ahead.length + n, behind.length);
        return all;
    }

    private static void same(String name, long[] got, long[] due) {
        int first = Arrays.mismatch(got, due);
        Due.is(name + ": the whole, number of the first that is otherwise", first, -1);
    }

    /** The call answers so, and all is then as on another object on which it was not made. */
    static void stays(Scene scene, String name, Call call, long due) {
        MoreStory x = scene.anew(), y = scene.anew();
        Due.is(name, call.by(x), due);
        same(name, end(x), end(y));
    }

    /** The call answers so, and is seen in the whole: else stays() would tell nothing. */
    static void changes(Scene scene, String name, Call call, long due) {
        MoreStory x = scene.anew(), y = scene.anew();
        Due.is(name, call.by(x), due);
        Due.is(name + ": is seen", Arrays.equals(end(x), end(y)) ? 0 : 1, 1);
    }

    /** Something of all, and nothing full: 3 things, 3 parents (the first is TOLD), an image of an earlier evening. */
    static MoreStory some() {
        MoreStory x = Due.with("late 40;deep 35;calm 3 p=0;calm 4 h<3;fuss 1 n>0");
        Due.things(x, 5, 8, 9, 2, 3, 7);
        Due.parents(x, 6, 9, 2, 3, 4, 0);
        x.row(0, 1, 0);
        x.ask(0);
        x.image();
        x.row(0, 2, 0);
        x.habit(2, 41);
        x.night();
        x.ask(1);
        x.ask(0);
        x.hear(true);
        x.hear(false);
        x.book(1);
        x.book(0);
        for (int sort = 0; sort < 5; sort++) {
            x.tape(sort, sort, 3);
            for (int i = 0; i < 3; i++) x.item(sort, i, 100 * sort + i);
        }
        x.act(0, 0, 5);
        Due.text(x, "lat");
        return x;
    }

    /** All that can be full is, and there is no image. */
    static MoreStory full() {
        MoreStory x = new MoreStory();
        for (int i = 1; i <= 6; i++) Due.house(x, "late 6" + i);
        for (int i = 1; i <= 7; i++) x.thing(i, i);
        Due.parents(x, 6, 9, 0, 0, 0, 1, 0, 2);
        for (int i = 0; i < 8; i++) x.hear(i % 2 == 0);
        for (int i = 0; i < 12; i++) x.book(i % 4);
        x.tape(0, 3, 60);
        x.item(0, 59, 77);
        Due.text(x, "late 9;".repeat(15).substring(0, 100));
        return x;
    }
}
