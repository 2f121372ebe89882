/** Promises 15 to 21. */
public final class BestTest {
    private static final int MIN = Integer.MIN_VALUE, MAX = Integer.MAX_VALUE;

    /** Gifts calm by 5, she sleeps from 10 on; a no costs 2. Things take 6 and 3 minutes. */
    private static MoreStory evening(int... kindsAndV) {
        MoreStory x = Due.with("deep 10;calm 5 t<9");
        Due.things(x, 6, 0, 3, 0);
        Due.parents(x, kindsAndV);
        return x;
    }

    private static MoreStory tired(String text, int minutes) {
        MoreStory x = Due.with(text);
        Due.things(x, minutes, 0);
        Due.parents(x, 3, 9);
        return x;
    }

    private static void promise15() {
        MoreStory x = evening(3, 3, 0, 0, 3, 9, 2, 1);
        Due.is("by the tired one alone", x.both(0, 0), 12);
        Due.is("the first of several", x.with(0), 1);
        Due.is("its clock", x.with(1), 9);
        x.ask(3);
        Due.is("goes on from 6", x.with(1), 9);
        Due.is("with the tired one too", x.with(0), 0);
        MoreStory none = evening(2, 1, 3, 2);
        Due.is("with none", none.with(0), -5);
        Due.is("no clock", none.with(1), -5);
        for (int what : new int[] {-1, 2, MIN, MAX}) Due.is("what " + what, x.with(what), -1);
        MoreStory asleep = Due.with("deep 0");
        Due.is("nobody", asleep.with(0), -5);
        Due.parents(asleep, 0, 0);
        Due.is("asleep without things", asleep.with(0), 0);
        Due.is("at 0", asleep.with(1), 0);
        Due.is("60 asks", tired("deep 60;late 99;calm 1 t<9", 1).with(1), 60);
        Due.is("61 asks", tired("deep 61;late 99;calm 1 t<9", 1).with(1), -5);
    }

    private static void promise16() {
        MoreStory x = evening(3, 3, 0, 0, 3, 9, 2, 1);
        Due.is("tired first", x.both(0, 1), 12);
        Due.is("tired second", x.both(1, 0), 9);
        Due.is("twice", x.both(1, 1), 9);
        Due.is("strict second", x.both(1, 3), 20);
        Due.is("strict first", x.both(3, 1), 9);
        Due.is("strict twice", x.both(3, 3), -5);
        x.ask(0);
        Due.is("goes on from 1", x.both(1, 1), 10);
        for (int i : new int[] {-1, 4, MIN, MAX}) {
            Due.is("nobody", x.both(i, 0), -1);
            Due.is("nobody", x.both(0, i), -1);
        }
        Due.is("60 asks", tired("deep 60;late 99;calm 1 t<9", 1).both(0, 0), 60);
        Due.is("61 asks", tired("deep 61;late 99;calm 1 t<9", 1).both(0, 0), -5);
    }

    private static void promise17() {
        MoreStory x = evening(0, 0, 3, 9, 2, 1);
        Due.is("below 10", x.limit(0, 0), 10);
        Due.is("clock", x.limit(0, 1), 9);
        Due.is("tired does not look", x.limit(1, 0), 7);
        Due.is("clock", x.limit(1, 1), 9);
        Due.is("by none", x.limit(2, 0), -5);
        Due.is("by none", x.limit(2, 1), -5);
        Due.is("in place of it", x.told(6), 60);
        MoreStory soft = Due.with("late 5;deep 10;calm 10 t<9");
        Due.things(soft, 20, 0);
        Due.parents(soft, 1, 0);
        Due.is("not the least late", soft.limit(0, 0), 21);
        Due.is("the least clock", soft.limit(0, 1), 20);
        MoreStory small = Due.with("deep 10;calm 2 t=0;calm 9 t=1");
        Due.things(small, 6, 0, 1, 0);
        Due.parents(small, 0, 0);
        Due.is("a small one helps", small.limit(0, 0), 5);
        Due.is("clock", small.limit(0, 1), 4);
        for (int what : new int[] {-1, 2, MIN, MAX}) Due.is("what " + what, x.limit(0, what), -1);
        for (int i : new int[] {-1, 3, MIN, MAX}) Due.is("nobody", x.limit(i, 0), -1);
        limitEnds();
    }

    private static void limitEnds() {
        MoreStory late = Due.with("deep 98;calm 14 t<9");
        Due.things(late, 14, 0);
        Due.parents(late, 0, 0);
        Due.is("99", late.limit(0, 0), 99);
        Due.is("98", late.limit(0, 1), 98);
        MoreStory later = Due.with("deep 99;calm 11 t<9");
        Due.things(later, 11, 0);
        Due.parents(later, 0, 0);
        Due.is("100 is none", later.limit(0, 0), -5);
        Due.is("1 is one", tired("deep 5;calm 5 t<9", 3).limit(0, 0), 1);
        MoreStory tears = Due.with("late 1;deep 5;calm 5 t<9;fuss 0 t<9");
        Due.things(tears, 3, 0);
        Due.parents(tears, 0, 0);
        tears.ask(0);
        Due.is("tears", tears.told(8), 2);
        Due.is("not by a later one", tears.limit(0, 0), 5);
    }

    private static void promise18() {
        MoreStory x = evening(0, 0, 2, 1);
        Due.is("the long one", x.without(0), 0);
        Due.is("she never sleeps", x.without(1), -5);
        for (int i : new int[] {-1, 2, MIN, MAX}) Due.is("nobody", x.without(i), -1);
        Due.is("none is less", things(0, 0, 3, 3).without(0), -5);
        Due.is("the first of several", things(0, 0, 9, 9, 3).without(0), 0);
        Due.is("not with all", things(3, 3, 6, 3).without(0), 0);
        Due.is("the only one", things(3, 3, 6).without(0), -5);
        MoreStory last = things(0, 0, 1, 9, 9);
        last.ask(0);
        last.ask(0);
        Due.is("asleep", last.without(0), -5);
        placed();
    }

    /** A gift calms by 5, she sleeps from 10 on; a no costs 9. */
    private static MoreStory things(int kind, int v, int... minutes) {
        MoreStory x = Due.with("deep 10;calm 5 t<9;fuss 9 t<9");
        for (int m : minutes) x.thing(m, 0);
        Due.parents(x, kind, v);
        return x;
    }

    /** One gift is enough: the next other one stands in the place of ONE. */
    private static MoreStory one(int place, int... minutes) {
        MoreStory x = Due.with("deep 5;calm 5 t<9;fuss 0 t<9");
        for (int m : minutes) x.thing(m, 0);
        Due.parents(x, 2, 0, 3, 20);
        Due.parents(x, 3, 9);
        for (int i = 0; i < place; i++) x.ask(0);
        return x;
    }

    private static void placed() {
        Due.is("from the last on to the first", one(2, 1, 9, 9).without(1), 2);
        Due.is("the one that is next", one(1, 9, 5, 1).without(1), 1);
        Due.is("the one that is next is longer", one(1, 9, 1, 5).without(1), -5);
        Due.is("at first", one(0, 9, 5, 1).without(1), 0);
    }

    private static void order(MoreStory x, int parent, int... due) {
        for (int k = -1; k < 5; k++) {
            Due.is("order " + parent + " " + k, x.order(parent, k), k + 1 < due.length ? due[k + 1] : -5);
        }
    }

    private static void promise19() {
        MoreStory x = Due.with("late 55;deep 25;calm 5 t<2;calm 3 c>1;fuss 3 n>0");
        Due.things(x, 10, 3, 5, 8, 2, 0);
        Due.parents(x, 0, 0, 2, 1, 5, 1);
        order(x, 0, 36, 2, 0, 1);
        order(x, 1, 10, 0, 1, 2);
        x.habit(0, 4);
        order(x, 2, 5, 0, 1, 2);
        x.habit(0, 0);
        x.ask(0);
        x.ask(1);
        order(x, 0, 36, 2, 0, 1);
        Due.is("changes nothing", x.told(1), 11);
        MoreStory fourth = new MoreStory();
        Due.things(fourth, 3, 0, 9, 0, 5, 0, 7, 0, 1, 0);
        Due.parents(fourth, 2, 1, 2, 3);
        order(fourth, 0, 9, 1, 0, 2, 3, 4);
        order(fourth, 1, 21, 1, 2, 3, 0, 4);
        Due.things(fourth, 1, 1);
        for (int k = -1; k < 5; k++) Due.is("six things", fourth.order(0, k), -9);
        Due.is("nobody of six", fourth.order(2, 0), -1);
        for (int k : new int[] {-2, 5, MIN, MAX}) Due.is("k " + k, fourth.order(0, k), -1);
        for (int i : new int[] {-1, 3, MIN, MAX}) Due.is("nobody", x.order(i, -1), -1);
        orderEnds();
    }

    private static void orderEnds() {
        order(tired("late 99;deep 99;calm 1 t<1", 1), 0, 60, 0);
        order(tired("late 0", 1), 0, 0, 0);
        MoreStory none = new MoreStory();
        Due.parents(none, 0, 0);
        order(none, 0, 0);
        MoreStory over = tired("late 9;deep 4", 3);
        over.ask(0);
        Due.is("asleep", over.told(8), 1);
        order(over, 0, 3, 0);
        MoreStory nos = tired("late 2;deep 99", 20);
        Due.parents(nos, 1, 0);
        order(nos, 1, 0, 0);
        nos.ask(0);
        nos.ask(0);
        Due.is("two nos", nos.told(3), 2);
        order(nos, 1, 0, 0);
        MoreStory given = tired("late 20;deep 99", 5);
        Due.parents(given, 2, 1);
        given.ask(1);
        Due.is("one is given", given.told(4), 1);
        order(given, 1, 5, 0);
        MoreStory told = tired("late 9;deep 4", 3);
        Due.parents(told, 6, 9);
        told.row(1, 1, 0);
        order(told, 1, 3, 0);
        told.night();
        order(told, 1, 0, 0);
    }

    private static void promise20() {
        MoreStory x = evening(0, 0, 2, 1);
        Due.is("two", x.coupons(0), 2);
        Due.is("by none", x.coupons(1), -5);
        x.ask(0);
        Due.is("one from now on", x.coupons(0), 1);
        x.ask(0);
        Due.is("none is needed", x.coupons(0), 0);
        Due.is("20", tired("deep 80;late 99;calm 4 t<9", 1).coupons(0), 20);
        Due.is("21", tired("deep 81;late 99;calm 4 t<9", 1).coupons(0), -5);
        for (int i : new int[] {-1, 2, MIN, MAX}) Due.is("nobody", x.coupons(i), -1);
    }

    private static MoreStory told(String text) {
        MoreStory x = Due.with(text);
        Due.things(x, 6, 0);
        Due.parents(x, 6, 9);
        x.row(0, 1, 0);
        return x;
    }

    private static void promise21() {
        MoreStory x = told("deep 10;calm 5 t<9");
        int[][] due = {{1, 12, 0, 2}, {2, 60, 1, 2}, {3, 12, 1, 4}, {10, 60, 3, 14}};
        for (int[] d : due) {
            for (int what = 0; what < 3; what++) Due.is("evenings " + d[0], x.evenings(0, d[0], what), d[1 + what]);
        }
        x.ask(0);
        Due.is("this one as it is", x.evenings(0, 1, 0), 12);
        Due.is("its habit", x.evenings(0, 1, 2), 2);
        Due.is("changes nothing", x.told(0) * 100 + x.told(1), 6);
        MoreStory late = told("deep 10;calm 5 t<9;late 99");
        Due.is("60 asks", late.evenings(0, 2, 0), 60);
        Due.is("no tears", late.evenings(0, 2, 1), 0);
        for (int n : new int[] {0, 11, -1, MIN, MAX}) Due.is("n " + n, x.evenings(0, n, 0), -2);
        for (int what : new int[] {-1, 3, MIN, MAX}) Due.is("what " + what, x.evenings(0, 0, what), -1);
        for (int i : new int[] {-1, 1, MIN, MAX}) Due.is("nobody", x.evenings(i, 0, 0), -1);
        evenings();
    }

    private static void evenings() {
        MoreStory x = told("deep 10;calm 5 t<9");
        x.habit(0, 998);
        Due.is("999 at most", x.evenings(0, 1, 2), 999);
        x.habit(0, 0);
        x.thing(6, 0);
        x.habit(1, 50);
        Due.is("of all things", x.evenings(0, 1, 2), 52);
        x.thing(9, 0);
        x.ask(0);
        Due.is("from the first thing on in the morning", x.evenings(0, 4, 0), 12);
        for (int i = 0; i < 9999; i++) x.night();
        Due.is("9999", x.told(0), 9999);
        Due.is("beyond", x.evenings(0, 4, 1), 1);
        Due.is("10002 modulo 4 is 2", x.evenings(0, 4, 0), 12);
        Due.is("10001 modulo 4 is 1", x.evenings(0, 3, 0), 60);
        MoreStory none = new MoreStory();
        Due.parents(none, 0, 0);
        Due.is("no things", none.evenings(0, 10, 2), 0);
    }

    public static void main(String[] args) {
        promise15();
        promise16();
        promise17();
        promise18();
        promise19();
        promise20();
        promise21();
        Due.end();
    }
}
