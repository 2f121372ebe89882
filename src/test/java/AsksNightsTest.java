/** Promises 11 to 14. */
public final class AsksNightsTest {
    private static final int MIN = Integer.MIN_VALUE, MAX = Integer.MAX_VALUE;

    private static void told(MoreStory x, String when, int clock, int sleepy, int nos, int given, int one) {
        int[] due = {clock, sleepy, nos, given, one};
        for (int i = 0; i < 5; i++) Due.is(when + ", told " + (i + 1), x.told(i + 1), due[i]);
    }

    /** The late is 30; things take 10, 15, 4 minutes; a gift calms by 5, and by 3 more from clock 10 on. */
    private static MoreStory evening() {
        MoreStory x = Due.with("late 30;deep 60;calm 5 t<9;calm 3 c>0;fuss 1 t<9;fuss 4 c>1;fuss 1 n>0");
        Due.things(x, 10, 0, 15, 0, 4, 0);
        Due.parents(x, 0, 0, 2, 0);
        return x;
    }

    private static void promise11() {
        MoreStory x = evening();
        Due.is("given", x.ask(0), 1);
        told(x, "behind 1", 10, 5, 0, 1, 1);
        Due.is("habit", x.at(0, 2), 1);
        Due.is("strict with 0", x.ask(1), 0);
        told(x, "behind 2", 11, 4, 1, 1, 2);
        Due.is("habit of what is not given", x.at(1, 2), 0);
        Due.is("4 minutes", x.ask(0), 1);
        told(x, "behind 3", 15, 12, 0, 2, 0);
        Due.is("no", x.ask(1), 0);
        Due.is("no", x.ask(1), 0);
        told(x, "behind 5", 17, 9, 2, 2, 2);
        Due.is("4 minutes", x.ask(0), 1);
        told(x, "behind 6", 21, 17, 0, 3, 0);
        Due.is("31 is not below 30", x.ask(0), 0);
        told(x, "behind 7", 22, 12, 1, 3, 1);
        Due.is("a no of 6", x.ask(0), 0);
        told(x, "behind 8", 23, 6, 2, 3, 2);
        Due.is("27 is", x.ask(0), 1);
        told(x, "behind 9", 27, 14, 0, 4, 0);
        for (int i = 0; i < 3; i++) Due.is("no", x.ask(1), 0);
        told(x, "tears", 30, 0, 3, 4, 0);
        Due.is("over", x.ask(0), -3);
        Due.is("nobody ahead of over", x.ask(2), -1);
        told(x, "as it was", 30, 0, 3, 4, 0);
        Due.is("habit 0", x.at(0, 2), 1);
        Due.is("habit 2", x.at(2, 2), 3);
        aheadOfAll();
        refused();
    }

    /** What CALM and FUSS look at is how all is ahead of the ASK: the clock, the nos, the habit. */
    private static void aheadOfAll() {
        MoreStory x = Due.with("late 99;deep 99;calm 1 c=0;calm 20 c=1;calm 40 h>0;fuss 3 n=0;fuss 9 n>0;fuss 30 c>1");
        Due.things(x, 10, 0, 9, 0);
        Due.parents(x, 3, 9, 3, 9);
        Due.is("10 minutes", x.ask(0), 0);
        Due.is("9 minutes", x.ask(0), 1);
        told(x, "clock 10", 10, 1, 0, 1, 0);
        x.ask(0);
        told(x, "a first no", 11, 0, 1, 1, 1);
        x.ask(0);
        told(x, "habit was 1, clock was 11", 20, 60, 0, 2, 0);
        x.habit(1, 0);
        x.ask(0);
        told(x, "a no at 20", 21, 27, 1, 2, 1);
    }

    private static void refused() {
        MoreStory none = new MoreStory();
        Due.is("nobody", none.ask(0), -1);
        Due.parents(none, 0, 0);
        Due.is("no things", none.ask(0), -3);
        for (int i : new int[] {-1, 1, 4, MIN, MAX}) Due.is("nobody", none.ask(i), -1);
        MoreStory full = new MoreStory();
        Due.things(full, 1, 0);
        Due.parents(full, 0, 0);
        full.habit(0, 999);
        Due.is("given once more", full.ask(0), 1);
        Due.is("999 at most", full.at(0, 2), 999);
    }

    private static void promise12() {
        MoreStory x = evening();
        x.ask(0);
        x.ask(1);
        Due.is("goes on", x.night(), 0);
        told(x, "in the morning", 0, 0, 0, 0, 0);
        Due.is("evening", x.told(0), 1);
        Due.is("habit stays", x.at(0, 2), 1);
        for (int i = 0; i < 30; i++) x.ask(1);
        Due.is("tears", x.night(), 2);
        MoreStory sleepy = Due.with("deep 4;late 9");
        Due.things(sleepy, 1, 1);
        Due.parents(sleepy, 0, 0);
        sleepy.ask(0);
        Due.is("she sleeps", sleepy.night(), 1);
        Due.is("evening", sleepy.told(0), 1);
        MoreStory many = new MoreStory();
        for (int i = 0; i < 9999; i++) many.night();
        Due.is("9999", many.told(0), 9999);
        Due.is("no more", many.night(), -3);
        Due.is("9999 still", many.told(0), 9999);
    }

    private static void promise13() {
        MoreStory x = Due.with("late 20");
        Due.things(x, 5, 0, 8, 7, 20, 0);
        Due.parents(x, 0, 0, 3, 5, 4, 0, 2, 0);
        Due.is("5 minutes", x.will(0), 7);
        Due.is("8 minutes, sweet", x.will(1), 5);
        Due.is("20 minutes", x.will(2), 0);
        for (int t : new int[] {-1, 3, 7, MIN, MAX}) Due.is("no thing", x.will(t), -1);
        x.ask(3);
        x.ask(3);
        Due.is("two nos", x.will(2), 4);
        Due.is("changes nothing", x.told(1), 2);
        MoreStory none = new MoreStory();
        Due.things(none, 1, 1);
        Due.is("nobody", none.will(0), 0);
    }

    private static void promise14() {
        MoreStory x = evening();
        int[][] due = {{0, 0, 0, 0, 0}, {10, 5, 1, 1, 0}, {25, 13, 2, 2, 0}, {29, 21, 3, 3, 0}, {30, 16, 3, 4, 2}};
        for (int n = 0; n < 5; n++) {
            for (int what = 0; what < 5; what++) Due.is("on 0 " + n + " " + what, x.on(0, n, what), due[n][what]);
        }
        for (int what = 0; what < 5; what++) Due.is("on 0 60 " + what, x.on(0, 60, what), due[4][what]);
        int[] strict = {30, 0, 0, 30, 2};
        for (int what = 0; what < 5; what++) Due.is("on 1 60 " + what, x.on(1, 60, what), strict[what]);
        told(x, "changes nothing", 0, 0, 0, 0, 0);
        Due.is("nor habits", x.at(0, 2), 0);
        x.ask(1);
        Due.is("goes on from 1", x.on(0, 1, 0), 16);
        for (int n : new int[] {-1, 61, MIN, MAX}) Due.is("n " + n, x.on(0, n, 0), -2);
        for (int what : new int[] {-1, 5, MIN, MAX}) Due.is("what " + what, x.on(0, 61, what), -1);
        for (int i : new int[] {-1, 2, MIN, MAX}) Due.is("nobody", x.on(i, 61, 0), -1);
        MoreStory sleeps = Due.with("deep 7");
        Due.things(sleeps, 1, 0);
        Due.parents(sleeps, 0, 0);
        int[] slept = {2, 8, 2, 2, 1};
        for (int what = 0; what < 5; what++) Due.is("sleeps " + what, sleeps.on(0, 60, what), slept[what]);
        MoreStory long_ = Due.with("late 99;deep 99;calm 1 t<1");
        Due.things(long_, 1, 0);
        Due.parents(long_, 0, 0);
        Due.is("60 asks", long_.on(0, 60, 3), 60);
        Due.is("59 asks", long_.on(0, 59, 0), 59);
        MoreStory none = new MoreStory();
        Due.parents(none, 0, 0);
        Due.is("no things", none.on(0, 60, 3), 0);
        MoreStory sweet = Due.with("late 9");
        Due.things(sweet, 9, 7, 9, 6);
        Due.parents(sweet, 4, 0);
        Due.is("sweet", sweet.on(0, 1, 2), 1);
        sweet.habit(0, 999);
        Due.is("not so sweet", sweet.on(0, 60, 0), 9);
    }

    public static void main(String[] args) {
        promise11();
        promise12();
        promise13();
        promise14();
        Due.end();
    }
}
