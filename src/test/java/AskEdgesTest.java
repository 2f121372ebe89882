/** Promises 10 to 14: an ASK, a NIGHT, when THE EVENING is over, 60 ASKS; each bound from both sides. */
public final class AskEdgesTest {
    private static final int MIN = Integer.MIN_VALUE, MAX = Integer.MAX_VALUE;

    private static void told() {
        Due.sentence("10: What 0 .. 8. NONE");
        MoreStory x = Due.one("late 9;deep 8;calm 3 p<9", 2);
        Due.is("ask", x.ask(0), 1);
        Due.is("ask", x.ask(1), 0);
        int[] all = {0, 3, 1, 1, 1, 0, 9, 8, 0};
        for (int what = 0; what < 9; what++) Due.is("what " + what, x.told(what), all[what]);
        for (int what : new int[] {-1, -2, 9, 10, MIN, MAX}) Due.is("what " + what, x.told(what), -1);
    }

    /** How it is by SLEEPY and CLOCK: calm is 1 a gift, a no costs none. */
    private static void over(int late, int deep, int gifts, int nos, int due) {
        MoreStory x = Due.one("late " + late + ";deep " + deep + ";calm 1 p<9;fuss 0 p<9", 1);
        Due.asks(x, 0, gifts);
        Due.asks(x, 1, nos);
        Due.is("sleepy", x.told(2), gifts);
        Due.is("clock", x.told(1), gifts + nos);
        String name = "late " + late + ", deep " + deep + ", clock " + (gifts + nos) + ", sleepy " + gifts;
        Due.is(name, x.told(8), due);
        Due.is(name + ", on", x.on(0, 0, 4), due);
        Due.is(name + ", a further ask", x.ask(1), due == 0 ? 0 : -3);
        Due.is(name + ", a further gift", x.ask(0), due != 0 ? -3 : gifts + nos + 1 < late ? 1 : -3);
        MoreStory y = Due.one("late " + late + ";deep " + deep + ";calm 1 p<9;fuss 0 p<9", 1);
        Due.asks(y, 0, gifts);
        Due.asks(y, 1, nos);
        Due.is(name + ", night", y.night(), due);
    }

    private static void evenings() {
        Due.sentence("10: over, if SLEEPY is deep or more (she SLEEPS), or CLOCK is late or more (TEARS; SLEEPS first)");
        over(20, 5, 4, 0, 0);
        over(20, 5, 5, 0, 1);
        over(20, 5, 4, 15, 0);
        over(20, 5, 4, 16, 2);
        over(5, 5, 5, 0, 1);
        over(5, 6, 5, 0, 2);
        over(6, 5, 5, 0, 1);
        over(5, 5, 4, 0, 0);
        over(5, 5, 4, 1, 2);
        over(1, 1, 0, 0, 0);
        over(0, 1, 0, 0, 2);
        over(1, 0, 0, 0, 1);
        over(0, 0, 0, 0, 1);
        over(99, 99, 98, 0, 0);
        over(99, 99, 0, 98, 0);
        over(99, 99, 0, 99, 2);
        over(99, 98, 98, 0, 1);
        Due.sentence("10: more than deep, more than late");
        MoreStory x = Due.one("late 10;deep 10;calm 99 p<9", 1);
        x.ask(0);
        Due.is("sleepy", x.told(2), 99);
        Due.is("she sleeps", x.told(8), 1);
        MoreStory y = Due.one("late 10;deep 99;calm 0 p<9", 9);
        Due.asks(y, 0, 2);
        Due.is("clock", y.told(1), 18);
        Due.is("tears", y.told(8), 2);
        MoreStory without = Due.one("", 9);
        Due.is("nothing given", without.told(8), 0);
        Due.asks(without, 1, 59);
        Due.is("59 without late", without.told(8), 0);
        Due.asks(without, 1, 1);
        Due.is("60 without late", without.told(8), 2);
        MoreStory deep = Due.one("", 1);
        Due.asks(deep, 0, 7);
        Due.is("28 without deep", deep.told(2) * 10 + deep.told(8), 280);
        deep.ask(1);
        deep.ask(0);
        Due.is("30 without deep", deep.told(2) * 10 + deep.told(8), 301);
    }

    private static void gift() {
        Due.sentence("11: CLOCK is MINUTES more, SLEEPY is CALM more, NOS are 0, GIVEN, HABIT are 1 more");
        MoreStory x = Due.one("late 99;deep 99;calm 7 n=3;calm 1 n=0", 9);
        Due.asks(x, 1, 3);
        Due.is("nos", x.told(3), 3);
        Due.is("given", x.ask(0), 1);
        Due.is("clock", x.told(1), 12);
        Due.is("calm by nos ahead of it", x.told(2), 7);
        Due.is("nos", x.told(3), 0);
        Due.is("given", x.told(4), 1);
        Due.is("habit", x.at(0, 2), 1);
        Due.sentence("11: CALM by how all is ahead of that: CLOCK");
        MoreStory clock = Due.one("late 99;deep 99;calm 7 c=0;calm 1 c=1;calm 3 c=2", 5);
        int[] sleepy = {7, 14, 15, 16, 19};
        for (int s : sleepy) {
            clock.ask(0);
            Due.is("sleepy", clock.told(2), s);
        }
        Due.sentence("11: CALM by how all is ahead of that: HABIT");
        MoreStory habit = Due.one("late 99;deep 99;calm 7 h=99;calm 1 h=0;calm 3 h=1", 5);
        habit.habit(0, 99);
        for (int s : new int[] {7, 8, 11}) {
            habit.ask(0);
            Due.is("sleepy", habit.told(2), s);
        }
        Due.sentence("11: HABIT 999 at most");
        MoreStory most = Due.one("late 99;deep 99", 1);
        most.habit(0, 997);
        for (int due : new int[] {998, 999, 999, 999}) {
            most.ask(0);
            Due.is("habit", most.at(0, 2), due);
        }
        Due.is("given all the same", most.told(4), 4);
    }

    private static void no() {
        Due.sentence("11: Else: CLOCK is 1 more, SLEEPY is FUSS less (0 at least), NOS are 1 more");
        for (int fuss = 0; fuss < 8; fuss++) {
            MoreStory x = Due.one("late 99;deep 99;calm 5 p<9;fuss " + fuss + " p<9", 9);
            x.ask(0);
            Due.is("no", x.ask(1), 0);
            Due.is("clock", x.told(1), 10);
            Due.is("sleepy, fuss " + fuss, x.told(2), Math.max(0, 5 - fuss));
            Due.is("nos", x.told(3), 1);
            Due.is("given", x.told(4), 1);
            Due.is("habit", x.at(0, 2), 1);
            Due.asks(x, 1, 5);
            Due.is("sleepy, fuss " + fuss, x.told(2), Math.max(0, 5 - 6 * fuss));
            Due.is("nos", x.told(3), 6);
            Due.is("given again", x.ask(0), 1);
            Due.is("sleepy, fuss " + fuss, x.told(2), Math.max(0, 5 - 6 * fuss) + 5);
            Due.is("nos, one behind the other", x.told(3), 0);
        }
        MoreStory most = Due.one("late 99;fuss 99 p<9", 9);
        most.ask(1);
        Due.is("0 at least", most.told(2), 0);
        Due.sentence("11: FUSS by how all is ahead of that: NOS, CLOCK");
        MoreStory x = Due.one("late 99;deep 99;calm 50 p<9;fuss 1 n=0;fuss 2 n=1;fuss 4 n=2;fuss 10 c=1", 8);
        x.ask(0);
        for (int due : new int[] {49, 47, 33, 23}) {
            x.ask(1);
            Due.is("sleepy", x.told(2), due);
        }
    }

    private static void next() {
        Due.sentence("11: ONE is the next by numbers, round");
        for (int things = 1; things <= 7; things++) {
            MoreStory x = Due.with("late 99;deep 99;fuss 0 p<9");
            for (int t = 0; t < things; t++) x.thing(t + 1, 0);
            Due.parents(x, 3, 9, 2, 0);
            for (int i = 0; i < 15; i++) {
                Due.is("one of " + things + " behind " + i, x.told(5), i % things);
                int clock = x.told(1);
                Due.is("ask", x.ask(i % 3 == 0 ? 0 : 1), i % 3 == 0 ? 1 : 0);
                Due.is("minutes of it", x.told(1) - clock, i % 3 == 0 ? i % things + 1 : 1);
            }
        }
        Due.sentence("11: ONE stays the next, if a THING comes");
        MoreStory x = Due.one("late 99;deep 99", 1);
        x.ask(0);
        Due.is("round", x.told(5), 0);
        x.thing(2, 0);
        x.ask(0);
        Due.is("the new one", x.told(5), 1);
        x.thing(3, 0);
        x.ask(0);
        Due.is("the newest", x.told(5), 2);
    }

    private static void refused() {
        Due.sentence("11: NONE; STATE: THE EVENING is over, or there are no THINGS");
        MoreStory x = new MoreStory();
        Due.is("nobody", x.ask(0), -1);
        Due.parents(x, 3, 9);
        Due.is("no things", x.ask(0), -3);
        x.thing(9, 0);
        Due.is("a thing", x.ask(0), 1);
        for (int p : new int[] {-1, 1, MIN, MAX}) Due.is("parent " + p, x.ask(p), -1);
        Due.parents(x, 3, 9, 3, 9, 3, 9);
        Due.is("the last", x.ask(3), 1);
        for (int p : new int[] {-1, 4, MIN, MAX}) Due.is("parent " + p, x.ask(p), -1);
        MoreStory asleep = Due.one("deep 4;calm 4 p<9", 1);
        Due.is("given", asleep.ask(0), 1);
        for (int p = 0; p < 2; p++) Due.is("she sleeps", asleep.ask(p), -3);
        Due.is("still", asleep.told(1) * 100 + asleep.told(2), 104);
        MoreStory tears = Due.one("late 3", 3);
        Due.is("given", tears.ask(0), 1);
        for (int p = 0; p < 2; p++) Due.is("tears", tears.ask(p), -3);
        Due.is("still", tears.told(1) * 100 + tears.told(2), 304);
        tears.night();
        Due.is("the next evening", tears.ask(1), 0);
        Due.sentence("11: by another HOUSE it goes on, or is over");
        MoreStory y = Due.one("late 3", 3);
        y.ask(0);
        Due.is("tears", y.ask(0), -3);
        Due.house(y, "late 4");
        Due.is("goes on", y.ask(1), 0);
        Due.is("tears again", y.ask(1), -3);
    }

    private static void night() {
        Due.sentence("12: CLOCK, SLEEPY, NOS, GIVEN, ONE are 0; EVENING is 1 more: how THE EVENING was");
        MoreStory x = Due.with("late 30;deep 40");
        Due.minutes(x, 9, 8);
        Due.parents(x, 3, 9, 2, 0);
        for (int evening = 0; evening < 20; evening++) {
            Due.is("evening", x.told(0), evening);
            Due.asks(x, 0, 1);
            Due.asks(x, 1, 2);
            int[] told = {evening, 11, 0, 2, 1, 1};
            for (int what = 0; what < 6; what++) Due.is("told " + what, x.told(what), told[what]);
            Due.is("night", x.night(), 0);
            int[] morning = {evening + 1, 0, 0, 0, 0, 0};
            for (int what = 0; what < 6; what++) Due.is("morning, told " + what, x.told(what), morning[what]);
            Due.is("habit stays", x.at(0, 2), evening + 1);
        }
        Due.is("of two nights, the second", x.night(), 0);
        Due.is("evening", x.told(0), 21);
    }

    /** So many nights are more calls than an object is promised for; the bound can not be reached in fewer. */
    private static void lastNight() {
        Due.sentence("12: STATE: EVENING is 9999");
        MoreStory x = Due.one("late 99;deep 99", 9);
        for (int i = 0; i < 9998; i++) x.night();
        Due.is("9998", x.told(0), 9998);
        Due.is("one more", x.night(), 0);
        Due.is("9999", x.told(0), 9999);
        x.ask(0);
        Due.is("no more", x.night(), -3);
        Due.is("9999 still", x.told(0), 9999);
        Due.is("the clock stays", x.told(1), 9);
        Due.is("given stays", x.told(4), 1);
    }

    private static void will() {
        Due.sentence("13: WILL, as bits. NONE");
        MoreStory x = Due.with("late 20;deep 99");
        Due.minutes(x, 5, 20, 9, 1, 1, 1, 1);
        Due.is("nobody is there", x.will(0), 0);
        int[] bits = {1, 3, 7, 15};
        for (int p = 0; p < 4; p++) {
            Due.parents(x, p == 2 ? 3 : 0, 9);
            Due.is("5 minutes", x.will(0), bits[p]);
            Due.is("20 minutes", x.will(1), 0);
        }
        Due.is("the last", x.will(6), 15);
        for (int t : new int[] {-1, 7, MIN, MAX}) Due.is("thing " + t, x.will(t), -1);
        Due.asks(x, 1, 4);
        Due.is("clock", x.told(1), 16);
        Due.is("5 minutes at 16", x.will(0), 4);
        Due.is("9 minutes at 16", x.will(2), 4);
        Due.is("20 minutes at 16", x.will(1), 0);
        MoreStory one = new MoreStory();
        one.thing(1, 1);
        Due.is("the only one", one.will(0), 0);
        Due.is("one behind it", one.will(1), -1);
    }

    private static void on() {
        Due.sentence("14: n (0 .. 60); as many, or fewer, if THE EVENING is over ahead of that");
        MoreStory x = Due.one("late 99;deep 99;calm 1 p<9", 1);
        for (int n = 0; n <= 60; n++) {
            int[] due = {n, n, n, n, 0}, no = {n, 0, 0, n, 0};
            for (int what = 0; what < 5; what++) {
                if (n > 3 && n < 58 && what != 3) continue;
                Due.is("on " + n + ", what " + what, x.on(0, n, what), due[what]);
                Due.is("on the other " + n + ", what " + what, x.on(1, n, what), no[what]);
            }
        }
        for (int n : new int[] {-1, -2, 61, 62, MIN, MAX}) Due.is("n " + n, x.on(0, n, 0), -2);
        for (int what : new int[] {-1, -2, 5, 6, MIN, MAX}) Due.is("what " + what, x.on(0, 5, what), -1);
        for (int p : new int[] {-1, 2, MIN, MAX}) Due.is("parent " + p, x.on(p, 5, 0), -1);
        for (int deep = 58; deep <= 62; deep++) {
            MoreStory sleeps = Due.one("late 99;deep " + deep + ";calm 1 p<9", 1);
            Due.is("deep " + deep + ", 60 asks", sleeps.on(0, 60, 3), Math.min(60, deep));
            Due.is("deep " + deep + ", how", sleeps.on(0, 60, 4), deep <= 60 ? 1 : 0);
            Due.is("deep " + deep + ", one ask fewer", sleeps.on(0, deep - 1 > 60 ? 60 : deep - 1, 4), 0);
            MoreStory tears = Due.one("late " + deep + ";deep 99", 1);
            Due.is("late " + deep + ", 60 asks", tears.on(1, 60, 3), Math.min(60, deep));
            Due.is("late " + deep + ", how", tears.on(1, 60, 4), deep <= 60 ? 2 : 0);
        }
        Due.sentence("14: goes on from how all is");
        Due.asks(x, 1, 2);
        Due.asks(x, 0, 3);
        int[] due = {7, 5, 5, 2, 0}, now = {5, 3, 3, 0, 0};
        for (int what = 0; what < 5; what++) Due.is("on 2, what " + what, x.on(0, 2, what), due[what]);
        for (int what = 0; what < 5; what++) Due.is("on 0, what " + what, x.on(0, 0, what), now[what]);
        MoreStory over = Due.one("late 3", 3);
        over.ask(0);
        int[] tears = {3, 4, 1, 0, 2};
        for (int what = 0; what < 5; what++) Due.is("over, what " + what, over.on(0, 60, what), tears[what]);
    }

    public static void main(String[] args) {
        told();
        evenings();
        gift();
        no();
        next();
        refused();
        night();
        lastNight();
        will();
        on();
        Due.end();
    }
}
