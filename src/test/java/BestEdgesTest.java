/** Promises 15 to 21: the bounds of what is looked for, the first of several, none, by 60 ASKS and by 61. */
public final class BestEdgesTest {
    private static final int MIN = Integer.MIN_VALUE, MAX = Integer.MAX_VALUE;

    /** She sleeps with a gift each of so many asks. */
    private static MoreStory gifts(int deep) {
        return Due.one("late 99;deep " + deep + ";calm 1 p<9", 1);
    }

    private static void with() {
        Due.sentence("15: the PARENT with whom alone she SLEEPS at the least CLOCK (of several the first; -5: with none)");
        int[][] kinds = {{2, 0}, {3, 2}, {0, 0}};
        int[] clocks = {-5, 9, 7};
        for (int a = 0; a < 3; a++) {
            for (int b = 0; b < 3; b++) {
                for (int c = 0; c < 3; c++) {
                    MoreStory x = Due.with("late 40;deep 8");
                    Due.minutes(x, 5, 2);
                    Due.parents(x, kinds[a][0], kinds[a][1], kinds[b][0], kinds[b][1], kinds[c][0], kinds[c][1]);
                    int[] which = {a, b, c};
                    int best = Math.max(a, Math.max(b, c)), who = 0;
                    while (which[who] != best) who++;
                    Due.is("with " + a + b + c, x.with(0), best == 0 ? -5 : who);
                    Due.is("clock with " + a + b + c, x.with(1), clocks[best]);
                }
            }
        }
        MoreStory last = Due.with("late 60;deep 8");
        Due.minutes(last, 5);
        Due.parents(last, 2, 0, 2, 0, 2, 1, 3, 5);
        Due.is("the last of four", last.with(0), 3);
        Due.is("its clock", last.with(1), 10);
        MoreStory better = Due.with("late 60;deep 8;calm 4 p=0;calm 8 p=1;calm 9 p=2");
        Due.minutes(better, 5);
        Due.parents(better, 3, 5, 3, 5, 3, 5);
        Due.is("the least, not the sleepiest", better.with(0), 1);
        Due.is("its clock", better.with(1), 5);
        withEnds();
    }

    private static void withEnds() {
        Due.sentence("15: what 0 who, 1 CLOCK. NONE");
        MoreStory x = gifts(5);
        Due.is("who", x.with(0), 0);
        Due.is("clock", x.with(1), 5);
        for (int what : new int[] {-1, 2, MIN, MAX}) Due.is("what " + what, x.with(what), -1);
        Due.sentence("15: by 60 ASKS");
        int[] deeps = {59, 60, 61, 62};
        for (int deep : deeps) {
            Due.is("deep " + deep, gifts(deep).with(0), deep <= 60 ? 0 : -5);
            Due.is("clock, deep " + deep, gifts(deep).with(1), deep <= 60 ? deep : -5);
        }
        Due.sentence("15: THE EVENING is over");
        MoreStory asleep = Due.one("deep 4", 3);
        asleep.ask(0);
        Due.is("asleep, the first", asleep.with(0), 0);
        Due.is("the clock now", asleep.with(1), 3);
        MoreStory tears = Due.one("late 3;deep 8", 3);
        tears.ask(0);
        Due.is("tears", tears.with(0), -5);
        Due.is("tears", tears.with(1), -5);
        MoreStory both = Due.one("late 9;deep 8", 9);
        both.ask(0);
        Due.is("tears are not sleep", both.with(0), -5);
    }

    private static void both() {
        Due.sentence("16: ASKED by turns, the first one first; also one twice; -5: she does not");
        MoreStory x = Due.one("late 99;deep 12", 5);
        Due.is("who gives, twice", x.both(0, 0), 15);
        Due.is("who does not, twice", x.both(1, 1), -5);
        Due.is("who gives first", x.both(0, 1), 29);
        Due.is("who does not first", x.both(1, 0), 30);
        for (int p : new int[] {-1, 2, MIN, MAX}) {
            Due.is("the first is " + p, x.both(p, 0), -1);
            Due.is("the other is " + p, x.both(0, p), -1);
            Due.is("both are " + p, x.both(p, p), -1);
        }
        Due.sentence("16: by 60 ASKS");
        for (int deep = 58; deep <= 62; deep++) {
            Due.is("twice, deep " + deep, gifts(deep).both(0, 0), deep <= 60 ? deep : -5);
        }
        for (int deep = 28; deep <= 32; deep++) {
            MoreStory y = Due.one("late 99;deep " + deep + ";calm 1 p<9;fuss 0 p<9", 1);
            Due.is("by turns, deep " + deep, y.both(0, 1), deep <= 30 ? 2 * deep - 1 : -5);
            Due.is("by turns, the other first, deep " + deep, y.both(1, 0), deep <= 30 ? 2 * deep : -5);
        }
        Due.sentence("16: THE EVENING is over");
        MoreStory asleep = Due.one("deep 4", 3);
        asleep.ask(0);
        Due.is("asleep", asleep.both(1, 1), 3);
        MoreStory tears = Due.one("late 3;deep 8", 3);
        tears.ask(0);
        Due.is("tears", tears.both(0, 0), -5);
    }

    /** PARENT, and things so that she sleeps just at this clock, if the late lets her. */
    private static MoreStory limited(int clock, int minutes, int calm) {
        MoreStory x = Due.with("late 99;deep " + clock / minutes * calm + ";calm " + calm + " p<9;fuss 0 p<9");
        Due.minutes(x, minutes);
        Due.parents(x, 0, 0, 2, 0);
        return x;
    }

    private static void limit() {
        Due.sentence("17: the late (1 .. 99) by which she SLEEPS at the least CLOCK (of several the least; -5: by none)");
        MoreStory high = limited(98, 14, 14);
        Due.is("99", high.limit(0, 0), 99);
        Due.is("clock 98", high.limit(0, 1), 98);
        MoreStory higher = limited(99, 11, 11);
        Due.is("100 is none", higher.limit(0, 0), -5);
        Due.is("no clock", higher.limit(0, 1), -5);
        MoreStory tired = Due.one("late 99;deep 4", 9);
        Due.is("1", tired.limit(0, 0), 1);
        Due.is("clock 9", tired.limit(0, 1), 9);
        MoreStory two = Due.one("late 99;deep 8", 9);
        Due.is("tears ahead of the second gift up to 9", two.limit(0, 0), 10);
        Due.is("clock 18", two.limit(0, 1), 18);
        Due.is("who never gives", two.limit(1, 0), -5);
        MoreStory now = limited(5, 5, 5);
        for (int late = 1; late <= 5; late += 2) {
            Due.house(now, "late " + late + ";deep 5;calm 5 p<9");
            Due.is("whatever the house's is", now.limit(0, 0), 6);
            Due.is("it stays", now.told(6), late);
        }
        for (int what : new int[] {-1, 2, MIN, MAX}) Due.is("what " + what, now.limit(0, what), -1);
        for (int p : new int[] {-1, 2, MIN, MAX}) Due.is("parent " + p, now.limit(p, 0), -1);
        limitEnds();
    }

    private static void limitEnds() {
        Due.sentence("17: by 60 ASKS");
        for (int deep = 59; deep <= 61; deep++) {
            Due.is("deep " + deep, gifts(deep).limit(0, 0), deep <= 60 ? deep : -5);
            Due.is("clock, deep " + deep, gifts(deep).limit(0, 1), deep <= 60 ? deep : -5);
        }
        Due.sentence("17: how it is now");
        MoreStory asleep = Due.one("deep 4", 3);
        asleep.ask(0);
        Due.is("asleep", asleep.limit(1, 0), 1);
        Due.is("the clock now", asleep.limit(1, 1), 3);
        MoreStory tears = Due.one("late 9;deep 8", 9);
        tears.ask(0);
        Due.is("tears", tears.told(8), 2);
        Due.is("later than now", tears.limit(0, 0), 10);
        Due.is("its clock", tears.limit(0, 1), 18);
        MoreStory least = Due.with("late 60;deep 8;calm 8 t=0;calm 4 t=1");
        Due.minutes(least, 20, 2);
        Due.parents(least, 0, 0);
        Due.is("from 21 on it is 20", least.limit(0, 1), 9);
        Due.is("of several the least", least.limit(0, 0), 10);
    }

    /** A gift calms by 5; TIRED with 9. */
    private static MoreStory things(int deep, int... minutes) {
        MoreStory x = Due.with("late 60;deep " + deep + ";calm 5 p<9;fuss 9 p<9");
        Due.minutes(x, minutes);
        Due.parents(x, 3, 9, 2, 0);
        return x;
    }

    private static void without() {
        Due.sentence("18: the THING that, were it never asked for, makes her SLEEP at the least CLOCK, if that is less than with all");
        Due.is("less", things(10, 5, 4, 3).without(0), 0);
        Due.is("less with the later one out", things(10, 4, 5, 3).without(0), 1);
        Due.is("as much", things(10, 4, 4, 4).without(0), -5);
        Due.is("none is less", things(10, 3, 4, 5).without(0), -5);
        Due.is("the last", things(15, 3, 3, 5).without(0), 2);
        Due.is("the last of three", things(20, 4, 3, 9).without(0), 2);
        Due.is("the last of seven", things(35, 1, 1, 1, 1, 1, 1, 9).without(0), 6);
        Due.sentence("18: or she does not SLEEP with all (of several the first; -5: no THING)");
        Due.is("one that is refused", things(10, 5, 20).without(0), 1);
        Due.is("the first of two", things(10, 20, 5).without(0), 0);
        Due.is("the least of two", things(10, 6, 20, 5).without(0), 1);
        Due.is("she sleeps without none", things(10, 20, 20).without(0), -5);
        Due.is("who never gives", things(10, 5, 4, 3).without(1), -5);
        Due.is("of several the first", things(15, 9, 9, 2, 2).without(0), 0);
        Due.sentence("18: the only THING");
        Due.is("she sleeps with it", things(10, 5).without(0), -5);
        Due.is("she does not", things(10, 20).without(0), -5);
        MoreStory none = Due.with("deep 5");
        Due.parents(none, 3, 9);
        Due.is("no things", none.without(0), -5);
        MoreStory asleep = things(5, 9, 1);
        asleep.ask(0);
        Due.is("asleep", asleep.without(0), -5);
        for (int p : new int[] {-1, 2, MIN, MAX}) Due.is("parent " + p, asleep.without(p), -1);
        next();
    }

    private static void next() {
        Due.sentence("18: (ONE is the next other one in its place)");
        int[][] minutes = {{9, 1, 5}, {5, 9, 1}, {1, 5, 9}};
        for (int one = 0; one < 3; one++) {
            for (int i = 0; i < 3; i++) {
                MoreStory x = things(5, minutes[i]);
                Due.house(x, "late 60;deep 5;calm 5 p<9;fuss 0 p<9");
                Due.asks(x, 1, one);
                int here = minutes[i][one], behind = minutes[i][(one + 1) % 3];
                Due.is("one " + one + " of row " + i, x.without(0), behind < here ? one : -5);
            }
        }
        Due.sentence("18: by 60 ASKS");
        for (int deep = 59; deep <= 61; deep++) {
            MoreStory x = Due.with("late 99;deep " + deep + ";calm 1 t=0;calm 0 t=1");
            Due.minutes(x, 1, 1);
            Due.parents(x, 3, 9);
            Due.is("deep " + deep, x.without(0), deep <= 60 ? 1 : -5);
            Due.house(x, "late 99;deep " + deep + ";calm 1 t=1;calm 0 t=0");
            Due.is("the other, deep " + deep, x.without(0), deep <= 60 ? 0 : -5);
        }
        MoreStory all = Due.with("late 99;deep 60;calm 1 p<9");
        Due.minutes(all, 1, 2);
        Due.parents(all, 3, 9);
        Due.is("30 times 3 are 90", all.on(0, 60, 0), 90);
        Due.is("she sleeps by the 60th", all.on(0, 60, 4), 1);
        Due.is("at 60 without the second", all.without(0), 1);
    }

    private static void order(MoreStory x, int parent, int... due) {
        for (int k = -1; k < 5; k++) Due.is("order " + k, x.order(parent, k), k + 1 < due.length ? due[k + 1] : -5);
        for (int k : new int[] {-2, 5, 6, MIN, MAX}) Due.is("order " + k, x.order(parent, k), -1);
    }

    /** STRICT with v, so that the v first are given, and the most minutes are the longest v. */
    private static MoreStory strict(int v, int... minutes) {
        MoreStory x = Due.with("late 99;deep 99;calm 0 p<9");
        Due.minutes(x, minutes);
        Due.parents(x, 2, v);
        return x;
    }

    private static void order() {
        Due.sentence("19: (5 THINGS at most, else -9); the k-th of the row (-5: there are fewer)");
        order(strict(1, 4), 0, 4, 0);
        order(strict(1, 4, 5), 0, 5, 1, 0);
        order(strict(1, 4, 5, 6), 0, 6, 2, 0, 1);
        order(strict(1, 4, 5, 6, 7), 0, 7, 3, 0, 1, 2);
        order(strict(1, 4, 5, 6, 7, 8), 0, 8, 4, 0, 1, 2, 3);
        for (MoreStory x : new MoreStory[] {strict(1, 4, 5, 6, 7, 8, 9), strict(1, 4, 5, 6, 7, 8, 9, 10)}) {
            for (int k = -1; k < 5; k++) Due.is("order " + k, x.order(0, k), -9);
        }
        Due.sentence("19: that by which MINUTES of all that is GIVEN, together, are most (of several the first as a row)");
        order(strict(0, 4, 5, 6), 0, 0, 0, 1, 2);
        order(strict(1, 4, 6, 6), 0, 6, 1, 0, 2);
        order(strict(2, 4, 6, 6), 0, 12, 1, 2, 0);
        order(strict(2, 6, 4, 6), 0, 12, 0, 2, 1);
        order(strict(3, 6, 4, 5), 0, 15, 0, 1, 2);
        order(strict(4, 6, 4, 5), 0, 21, 0, 1, 2);
        order(strict(4, 4, 5, 6), 0, 21, 2, 0, 1);
        order(strict(3, 9, 8, 7, 6, 5), 0, 24, 0, 1, 2, 3, 4);
        order(strict(3, 5, 6, 7, 8, 9), 0, 24, 2, 3, 4, 0, 1);
        order(strict(4, 9, 5, 6, 7, 8), 0, 30, 0, 2, 3, 4, 1);
        orderEnds();
    }

    private static void orderEnds() {
        Due.sentence("19: by 60 ASKS");
        order(gifts(59), 0, 59, 0);
        order(gifts(60), 0, 60, 0);
        order(gifts(61), 0, 60, 0);
        Due.sentence("19: if CLOCK, SLEEPY, NOS, GIVEN were 0");
        MoreStory x = strict(2, 4, 5);
        Due.parents(x, 1, 0);
        Due.asks(x, 0, 7);
        order(x, 0, 9, 0, 1);
        MoreStory over = Due.one("late 9;deep 8", 9);
        over.ask(0);
        Due.is("tears", over.told(8), 2);
        order(over, 0, 9, 0);
        MoreStory asleep = Due.one("deep 4", 3);
        asleep.ask(0);
        Due.is("asleep", asleep.told(8), 1);
        order(asleep, 0, 3, 0);
        MoreStory soft = Due.with("late 2;deep 99");
        Due.minutes(soft, 20);
        Due.parents(soft, 1, 0);
        Due.asks(soft, 0, 1);
        order(soft, 0, 0, 0);
        order(Due.one("deep 0", 3), 0, 0, 0);
        order(Due.one("late 0", 3), 0, 0, 0);
        MoreStory none = new MoreStory();
        Due.parents(none, 3, 9);
        order(none, 0, 0);
        for (int p : new int[] {-1, 2, MIN, MAX}) Due.is("parent " + p, over.order(p, 0), -1);
    }

    private static void coupons() {
        Due.sentence("20: the least n (0 .. 20) such that she SLEEPS (-5: by none)");
        for (int n : new int[] {0, 1, 2, 19, 20, 21, 22}) {
            MoreStory x = Due.one("late 99;deep " + 4 * n, 1);
            Due.is("of " + n, x.coupons(0), n <= 20 ? n : -5);
            Due.is("who never gives, of " + n, x.coupons(1), n == 0 ? 0 : -5);
        }
        Due.sentence("20: from now on");
        MoreStory x = Due.one("late 99;deep 12", 1);
        for (int given = 0; given <= 3; given++) {
            Due.is("behind " + given, x.coupons(0), 3 - given);
            x.ask(0);
        }
        for (int p : new int[] {-1, 2, MIN, MAX}) Due.is("parent " + p, x.coupons(p), -1);
        Due.sentence("20: fewer are too few");
        MoreStory y = Due.one("late 99;deep 9;calm 4 p<9", 1);
        Due.is("three", y.coupons(0), 3);
        Due.sentence("20: by 60 ASKS");
        for (int deep = 9; deep <= 11; deep++) {
            MoreStory late = Due.with("late 99;deep " + deep + ";calm 1 p<9;fuss 0 p<9");
            Due.minutes(late, 20, 20, 20, 20, 20, 1);
            Due.parents(late, 3, 9);
            Due.is("each sixth is given, deep " + deep, late.coupons(0), deep <= 10 ? deep : -5);
        }
        Due.sentence("20: a no behind the last of them");
        MoreStory no = Due.with("late 99;deep 5;calm 2 n=0;calm 5 n=1;fuss 0 p<9");
        Due.minutes(no, 3, 20);
        Due.parents(no, 3, 9);
        Due.is("3 minutes, no, 3 minutes", no.coupons(0), 2);
        MoreStory tears = Due.one("late 3;deep 8", 3);
        tears.ask(0);
        Due.is("tears", tears.coupons(0), -5);
    }

    private static void evenings() {
        Due.sentence("21: n (1 .. 10)");
        MoreStory x = Due.one("late 9;deep 99", 3);
        for (int n = 1; n <= 10; n++) {
            Due.is("clock", x.evenings(0, n, 0), 9);
            Due.is("tears", x.evenings(0, n, 1), n);
            Due.is("habit", x.evenings(0, n, 2), 3 * n);
            Due.is("habit of who never gives", x.evenings(1, n, 2), 0);
        }
        for (int n : new int[] {0, -1, 11, 12, MIN, MAX}) Due.is("n " + n, x.evenings(0, n, 0), -2);
        for (int what : new int[] {-1, 3, MIN, MAX}) Due.is("what " + what, x.evenings(0, 1, what), -1);
        for (int p : new int[] {-1, 2, MIN, MAX}) Due.is("parent " + p, x.evenings(p, 1, 0), -1);
        Due.sentence("21: with 60 ASKS of that one each");
        MoreStory all = gifts(99);
        for (int n = 1; n <= 10; n++) {
            Due.is("clock", all.evenings(0, n, 0), 60);
            Due.is("tears", all.evenings(0, n, 1), 0);
            Due.is("habit", all.evenings(0, n, 2), 60 * n);
        }
        MoreStory sleeps = gifts(60);
        Due.is("she sleeps", sleeps.evenings(0, 10, 1), 0);
        Due.is("tears by 60", Due.one("late 60;deep 99;calm 1 p<9", 1).evenings(0, 10, 1), 10);
        Due.is("none by 60", Due.one("late 61;deep 99;calm 1 p<9", 1).evenings(0, 10, 1), 0);
        Due.sentence("21: HABIT of all THINGS, together: 999 at most each");
        all.habit(0, 950);
        Due.is("999", all.evenings(0, 1, 2), 999);
        all.habit(0, 939);
        Due.is("999 just so", all.evenings(0, 1, 2), 999);
        Due.is("and no more", all.evenings(0, 2, 2), 999);
        first();
    }

    private static void first() {
        Due.sentence("21: this one first, as it is now");
        MoreStory x = Due.one("late 20;deep 16;calm 4 p<9", 3);
        x.ask(0);
        Due.asks(x, 1, 9);
        Due.is("goes on", x.told(1) * 10 + x.told(8), 120);
        Due.is("this one ends with tears", x.evenings(0, 1, 1), 1);
        Due.is("its clock", x.evenings(0, 1, 0), 21);
        Due.is("the second does not", x.evenings(0, 2, 1), 1);
        Due.is("its clock", x.evenings(0, 2, 0), 12);
        Due.is("habit, with the one of now", x.evenings(0, 2, 2), 8);
        MoreStory over = Due.one("late 3;deep 8", 3);
        over.ask(0);
        Due.is("over as it is", over.evenings(1, 1, 0), 3);
        Due.is("tears", over.evenings(1, 1, 1), 1);
        Due.is("of two", over.evenings(1, 2, 1), 2);
        Due.is("habit", over.evenings(1, 2, 2), 1);
        Due.sentence("21: from the first THING on in the morning");
        MoreStory next = Due.with("late 20;deep 8;calm 8 p<9");
        Due.minutes(next, 5, 9);
        Due.parents(next, 3, 9);
        Due.is("this one", next.evenings(0, 1, 0), 5);
        next.ask(0);
        next.night();
        next.ask(0);
        Due.is("slept with the first", next.evenings(0, 2, 0), 5);
        MoreStory second = Due.with("late 20;deep 8;calm 8 p=0");
        Due.minutes(second, 5, 9);
        Due.parents(second, 3, 9, 2, 0);
        second.ask(1);
        Due.is("this one, from the second", second.evenings(0, 1, 0), 10);
        Due.is("the next, from the first", second.evenings(0, 2, 0), 5);
        Due.sentence("21: a TOLD one's ROW by EVENINGS modulo 4");
        MoreStory told = Due.with("late 99;deep 8;calm 8 p<9");
        Due.minutes(told, 5);
        Due.parents(told, 6, 9);
        told.row(0, 2, 0);
        for (int n = 1; n <= 10; n++) Due.is("evening " + n, told.evenings(0, n, 0), n % 4 == 3 ? 60 : 5);
        told.night();
        for (int n = 1; n <= 10; n++) Due.is("from 1, evening " + n, told.evenings(0, n, 0), n % 4 == 2 ? 60 : 5);
    }

    public static void main(String[] args) {
        with();
        both();
        limit();
        without();
        order();
        coupons();
        evenings();
        Due.end();
    }
}
