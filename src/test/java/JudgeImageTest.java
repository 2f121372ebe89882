/** Promises 29 to 31. */
public final class JudgeImageTest {
    private static final int MIN = Integer.MIN_VALUE, MAX = Integer.MAX_VALUE;

    private static void promise29() {
        MoreStory x = new MoreStory();
        Due.is("nothing to look at", x.judge(0, 0), -5);
        Due.is("nor at a place below 0", x.judge(0, -1), -5);
        for (int tape : new int[] {-1, 6, MIN, MAX}) Due.is("no tape", x.judge(tape, 0), -1);
        for (int sort : new int[] {0, 1, 2, 4}) {
            x.tape(0, sort, 5);
            Due.is("another sort", x.judge(0, 0), -12);
        }
        Due.things(x, 1, 1, 2, 2, 3, 3);
        Due.is("another sort still", x.judge(0, -1), -12);
        Due.is("holds nothing", x.judge(1, 0), 100);
        x.habit(0, 5);
        x.habit(1, 999);
        x.tape(1, 3, 5);
        x.item(1, 2, 5);
        x.item(1, 3, 999);
        Due.is("all so", x.judge(1, 2), -5);
        Due.is("the first", x.judge(1, 1), 0);
        Due.is("the row ends", x.judge(1, 4), 0);
        Due.is("ends at once", x.judge(1, 5), 100);
        for (int i : new int[] {-1, MIN, MAX, MAX - 1, 6}) Due.is("no such place", x.judge(1, i), 100);
        x.item(1, 4, 1L << 32);
        Due.is("the third, as a long", x.judge(1, 2), 2);
        x.item(1, 4, 0);
        x.item(1, 3, 998);
        Due.is("the second", x.judge(1, 2), 1);
        x.tape(1, 3, 2);
        x.item(1, 0, 5);
        x.item(1, 1, 999);
        Due.is("two were looked at", x.judge(1, 0), 102);
        x.item(1, 1, 5);
        Due.is("one was looked at", x.judge(1, 1), 101);
        x.item(1, 1, 0);
        Due.is("otherwise ahead of the end", x.judge(1, 0), 1);
        x.tape(1, 3, 0);
        Due.is("an empty row", x.judge(1, 0), 100);
    }

    /** All that the image keeps, as one row of numbers. */
    private static int[] all(MoreStory x) {
        int[] all = new int[120];
        int n = 0;
        for (int what = 0; what <= 8; what++) all[n++] = x.told(what);
        for (int what = 0; what <= 4; what++) all[n++] = what == 2 ? 0 : x.count(what);
        for (int t = 0; t < 4; t++) {
            for (int what = 0; what < 3; what++) all[n++] = x.at(t, what);
        }
        for (int i = 0; i < 4; i++) {
            for (int what : new int[] {0, 1, 10, 11, 20, 21, 30, 31}) all[n++] = x.of(i, what);
        }
        all[n++] = x.who();
        all[n++] = x.looked();
        return all;
    }

    private static void same(String call, MoreStory x, int[] due) {
        int[] got = all(x);
        for (int i = 0; i < due.length; i++) Due.is(call + ", " + i, got[i], due[i]);
    }

    private static MoreStory evening() {
        MoreStory x = Due.with("late 50;deep 40;calm 3 p=0;calm 4 h<3");
        Due.things(x, 5, 8, 6, 2);
        Due.parents(x, 0, 4, 6, 9);
        x.row(1, 1, 0);
        x.night();
        x.ask(0);
        x.ask(0);
        x.ask(1);
        x.hear(true);
        x.hear(false);
        x.book(0);
        x.book(1);
        return x;
    }

    private static void changed(MoreStory x) {
        Due.is("a house", Due.house(x, "late 20;deep 70;fuss 1 t=0"), x.count(2) - 1);
        Due.things(x, 9, 9);
        Due.parents(x, 1, 1);
        x.ask(2);
        x.night();
        x.ask(0);
        x.habit(0, 700);
        x.habit(1, 3);
        x.row(1, 1, 1);
        x.row(1, 2, 0);
        x.hush();
        x.hear(false);
        x.book(-1);
        x.book(2);
        x.book(2);
        x.book(2);
    }

    private static void promise30And31() {
        MoreStory x = evening();
        Due.is("no image", x.undo(), -3);
        int[] due = all(x);
        Due.is("the second does not give", x.looked(), 1);
        Due.is("image", x.image(), 2);
        same("the image changes nothing", x, due);
        changed(x);
        Due.is("three then", x.count(0), 3);
        Due.is("undo", x.undo(), 2);
        same("undone", x, due);
        Due.is("the row of part 1", x.row(1, 1, 0), 0);
        Due.is("the row of part 2", x.row(1, 2, 1), 1);
        Due.is("houses stay", x.count(2), 2);
        changed(x);
        Due.is("once more", x.undo(), 2);
        same("undone once more", x, due);
        Due.is("houses stay", x.count(2), 3);
        changed(x);
        Due.is("another image", x.image(), 3);
        int[] later = all(x);
        x.night();
        x.habit(0, 1);
        Due.is("to the later one", x.undo(), 3);
        same("undone to the later one", x, later);
        kept();
    }

    private static void kept() {
        MoreStory x = new MoreStory();
        Due.is("nobody", x.image(), 0);
        Due.parents(x, 6, 9, 5, 1);
        Due.things(x, 5, 5);
        x.row(0, 0, 0);
        x.habit(0, 9);
        x.feed('l');
        x.tape(0, 3, 4);
        x.item(0, 0, 77);
        x.act(1, 0, 1);
        Due.is("to nothing", x.undo(), 0);
        Due.is("nobody", x.count(0), 0);
        Due.is("no thing", x.count(1), 0);
        Due.is("the text stays", x.count(5), 1);
        Due.is("tapes stay", x.read(0, 0), 77);
        Due.is("the trace stays", x.trace(0), 30);
        Due.parents(x, 6, 9);
        Due.things(x, 5, 5);
        Due.is("a new row", x.row(0, 0, 1), 1);
        Due.is("a new habit", x.at(0, 2), 0);
        MoreStory house = new MoreStory();
        house.image();
        Due.house(house, "late 9;deep 8");
        house.undo();
        Due.is("none holds", house.told(6) * 100 + house.told(7), 6030);
        Due.is("the next number", Due.house(house, "late 9;deep 8"), 1);
        Due.is("the newest holds", house.told(6) * 100 + house.told(7), 908);
    }

    public static void main(String[] args) {
        promise29();
        promise30And31();
        Due.end();
    }
}
