/** Promises 2 to 7, and GIVES: the last value that is taken and the first that is not, on both sides. */
public final class ThingParentEdgesTest {
    private static final int MIN = Integer.MIN_VALUE, MAX = Integer.MAX_VALUE;

    private static void things() {
        Due.sentence("2: MINUTES (1 .. 20)");
        for (int m : new int[] {1, 2, 19, 20}) {
            MoreStory x = new MoreStory();
            Due.is("minutes " + m, x.thing(m, 5), 0);
            Due.is("they are", x.at(0, 0), m);
        }
        for (int m : new int[] {0, -1, 21, 22, 256 + 5, MIN, MAX}) {
            MoreStory x = new MoreStory();
            Due.is("minutes " + m, x.thing(m, 5), -2);
            Due.is("none came", x.count(1), 0);
        }
        Due.sentence("2: SWEET (0 .. 9)");
        for (int s = 0; s <= 9; s++) {
            MoreStory x = new MoreStory();
            Due.is("sweet " + s, x.thing(5, s), 0);
            Due.is("so it is", x.at(0, 1), s);
        }
        for (int s : new int[] {-1, -2, 10, 11, 256, MIN, MAX}) {
            MoreStory x = new MoreStory();
            Due.is("sweet " + s, x.thing(5, s), -2);
            Due.is("none came", x.count(1), 0);
        }
        Due.sentence("2: its number; FULL: 7; HABIT 0 at first");
        MoreStory x = new MoreStory();
        for (int i = 0; i < 7; i++) {
            Due.is("thing", x.thing(i + 1, i), i);
            Due.is("habit", x.at(i, 2), 0);
            Due.is("how many", x.count(1), i + 1);
        }
        for (int i = 0; i < 3; i++) Due.is("an eighth", x.thing(1, 1), -4);
        Due.is("how many", x.count(1), 7);
        for (int i = 0; i < 7; i++) Due.is("minutes and sweet", x.at(i, 0) * 10 + x.at(i, 1), 10 * (i + 1) + i);
    }

    private static void parents() {
        Due.sentence("3: KINDS 0 .. 6");
        for (int kind = 0; kind <= 6; kind++) {
            MoreStory x = new MoreStory();
            Due.is("kind " + kind, x.parent(kind, 5), 0);
            Due.is("it is", x.of(0, 0), kind);
        }
        for (int kind : new int[] {-1, -2, 7, 8, MIN, MAX}) {
            MoreStory x = new MoreStory();
            Due.is("kind " + kind, x.parent(kind, 5), -1);
            Due.is("none came", x.count(0), 0);
        }
        Due.sentence("3: a number v (0 .. 9)");
        for (int kind = 0; kind <= 6; kind++) {
            for (int v = 0; v <= 9; v += 3) {
                MoreStory x = new MoreStory();
                Due.is("v " + v, x.parent(kind, v), 0);
                Due.is("it is", x.of(0, 1), v);
            }
            for (int v : new int[] {-1, 10, MIN, MAX}) {
                MoreStory x = new MoreStory();
                Due.is("v " + v, x.parent(kind, v), -2);
                Due.is("none came", x.count(0), 0);
            }
        }
        Due.sentence("3: its number; FULL: 4");
        MoreStory x = new MoreStory();
        for (int i = 0; i < 4; i++) Due.is("parent", x.parent(6 - i, i), i);
        for (int i = 0; i < 3; i++) Due.is("a fifth", x.parent(0, 0), -4);
        Due.is("how many", x.count(0), 4);
        for (int i = 0; i < 4; i++) Due.is("kind and v", x.of(i, 0) * 10 + x.of(i, 1), (6 - i) * 10 + i);
    }

    /** Things of 1, 2 and so on minutes, sweet 0, 1 and so on; TOLD ones, with v of 0, 1 and so on. */
    private static MoreStory some(int things, int parents) {
        MoreStory x = new MoreStory();
        for (int t = 0; t < things; t++) x.thing(t + 1, t);
        for (int p = 0; p < parents; p++) x.parent(6, p);
        return x;
    }

    private static void at() {
        Due.sentence("4: Of a THING what 0, 1, 2. NONE");
        for (int things = 0; things <= 7; things++) {
            MoreStory x = some(things, 0);
            for (int t = -1; t < 9; t++) {
                boolean there = t >= 0 && t < things;
                Due.is("minutes of " + t + " of " + things, x.at(t, 0), there ? t + 1 : -1);
                Due.is("sweet of " + t + " of " + things, x.at(t, 1), there ? t : -1);
                Due.is("habit of " + t + " of " + things, x.at(t, 2), there ? 0 : -1);
                Due.is("what -1", x.at(t, -1), -1);
                Due.is("what 3", x.at(t, 3), -1);
            }
            for (int t : new int[] {MIN, MAX}) Due.is("thing " + t, x.at(t, 0), -1);
            for (int what : new int[] {MIN, MAX}) Due.is("what " + what, x.at(0, what), -1);
        }
    }

    private static void of() {
        Due.sentence("5: Of a PARENT what 0, 1, 10 and t, 20 and t, 30 and t. NONE");
        for (int things = 0; things <= 7; things++) {
            MoreStory x = some(things, 2);
            for (int what = -2; what < 60; what++) {
                int t = what % 10;
                boolean there = what >= 10 && what < 40 && t < things;
                int due = what == 0 ? 6 : what == 1 ? 1 : !there ? -1 : what < 20 ? t == 0 ? 1 : 0 : what < 30 ? 4 : 2;
                Due.is("what " + what + " of " + things, x.of(1, what), due);
            }
            for (int what : new int[] {MIN, MIN + 8, MIN + 20, MAX, 100, 110}) Due.is("what " + what, x.of(1, what), -1);
        }
        for (int parents = 0; parents <= 4; parents++) {
            MoreStory x = some(7, parents);
            for (int p = -1; p < 6; p++) {
                boolean there = p >= 0 && p < parents;
                Due.is("kind of " + p + " of " + parents, x.of(p, 0), there ? 6 : -1);
                Due.is("v of " + p + " of " + parents, x.of(p, 1), there ? p : -1);
                for (int what : new int[] {10, 20, 30}) Due.is("of " + p, x.of(p, what) < 0 ? 0 : 1, there ? 1 : 0);
            }
            for (int p : new int[] {MIN, MAX}) Due.is("parent " + p, x.of(p, 0), -1);
        }
    }

    private static void habit() {
        Due.sentence("6: HABIT of a THING becomes n (0 .. 999): what it was. NONE; BAD");
        MoreStory x = some(7, 0);
        int was = 0;
        for (int n : new int[] {0, 1, 998, 999, 0, 999}) {
            Due.is("becomes " + n, x.habit(6, n), was);
            Due.is("is", x.at(6, 2), n);
            was = n;
        }
        for (int n : new int[] {-1, -2, 1000, 1001, MIN, MAX}) {
            Due.is("n " + n, x.habit(6, n), -2);
            Due.is("is still", x.at(6, 2), 999);
        }
        for (int t = 0; t < 6; t++) Due.is("of another", x.at(t, 2), 0);
        Due.is("the first", x.habit(0, 5), 0);
        for (int t : new int[] {-1, 7, MIN, MAX}) Due.is("no thing " + t, x.habit(t, 5), -1);
        MoreStory y = some(2, 0);
        Due.is("the last", y.habit(1, 5), 0);
        Due.is("one behind it", y.habit(2, 5), -1);
    }

    private static void row() {
        Due.sentence("7: The ROW of a TOLD one becomes n (0, 1) for EVENINGS modulo 4 being part: what it was");
        MoreStory x = some(1, 4);
        for (int p = 0; p < 4; p++) {
            for (int part = 0; part < 4; part++) Due.is("1 at first", x.row(p, part, 1), 1);
        }
        for (int p = 0; p < 4; p++) {
            for (int part = 0; part < 4; part++) {
                Due.is("was 1", x.row(p, part, 0), 1);
                Due.is("was 0", x.row(p, part, 0), 0);
                if ((p + part) % 2 == 0) Due.is("was 0", x.row(p, part, 1), 0);
            }
        }
        for (int p = 0; p < 4; p++) {
            for (int part = 0; part < 4; part++) Due.is("its own", x.row(p, part, 1), (p + part) % 2 == 0 ? 1 : 0);
        }
        for (int part : new int[] {-1, 4, 5, MIN, MAX}) Due.is("part " + part, x.row(0, part, 0), -1);
        for (int p : new int[] {-1, 4, MIN, MAX}) Due.is("parent " + p, x.row(p, 0, 0), -1);
        for (int n : new int[] {-1, 2, MIN, MAX}) Due.is("n " + n, x.row(0, 0, n), -2);
        for (int kind = 0; kind < 6; kind++) {
            MoreStory y = new MoreStory();
            Due.parents(y, 6, 0, kind, 9);
            for (int part = 0; part < 4; part++) Due.is("kind " + kind, y.row(1, part, 0), -3);
            Due.is("the one that is", y.row(0, 3, 0), 1);
        }
    }

    /** Whether the first parent gives the only thing; if so, it is then given. */
    private static void gives(MoreStory x, String name, boolean due) {
        Due.is(name + ", of", x.of(0, 10), due ? 1 : 0);
        Due.is(name + ", will", x.will(0) & 1, due ? 1 : 0);
        boolean over = x.told(8) != 0;
        Due.is(name + ", on", x.on(0, 1, 2) - x.told(4), due && !over ? 1 : 0);
        Due.is(name + ", ask", x.ask(0), over ? -3 : due ? 1 : 0);
    }

    /** One thing; a second parent (STRICT with 0) who never gives, and whose asks move the clock and NOS. */
    private static MoreStory at(int kind, int v, int minutes, int sweet, int nos) {
        MoreStory x = Due.with("late 20;deep 99;fuss 0 p<9");
        x.thing(minutes, sweet);
        Due.parents(x, kind, v, 2, 0);
        Due.asks(x, 1, nos);
        return x;
    }

    private static void parentGives() {
        Due.sentence("PARENT: if CLOCK and its MINUTES, together, are below late");
        for (int minutes = 1; minutes <= 20; minutes++) gives(at(0, 0, minutes, 0, 0), minutes + " minutes", minutes < 20);
        for (int clock = 0; clock <= 20; clock++) gives(at(0, 9, 5, 9, clock), "5 minutes at " + clock, clock + 5 < 20);
        for (int clock = 0; clock <= 20; clock++) gives(at(0, 9, 1, 9, clock), "1 minute at " + clock, clock + 1 < 20);
    }

    private static void softGives() {
        Due.sentence("SOFT: as PARENT, and also if NOS are 2 or more");
        for (int nos = 0; nos <= 20; nos++) gives(at(1, 0, 20, 6, nos), "20 minutes behind " + nos, nos >= 2);
        for (int nos = 0; nos <= 5; nos++) gives(at(1, 0, 5, 0, nos), "5 minutes behind " + nos, true);
        Due.sentence("MELTING: as SOFT, and also if it is SWEET above 6");
        for (int sweet = 0; sweet <= 9; sweet++) {
            gives(at(4, 0, 20, sweet, 0), "sweet " + sweet, sweet > 6);
            gives(at(4, 0, 20, sweet, 1), "sweet " + sweet + " behind 1", sweet > 6);
            gives(at(4, 0, 20, sweet, 2), "sweet " + sweet + " behind 2", true);
            gives(at(4, 0, 19, sweet, 0), "sweet " + sweet + ", 19 minutes", true);
            gives(at(1, 9, 20, sweet, 1), "soft, sweet " + sweet, false);
        }
    }

    private static void strictGives() {
        Due.sentence("STRICT: as PARENT, but only if GIVEN is below v");
        for (int kind : new int[] {2, 5}) {
            for (int v = 0; v <= 9; v++) {
                MoreStory x = at(kind, v, 1, 0, 0);
                for (int given = 0; given < v; given++) gives(x, "given " + given + " of " + v, true);
                gives(x, "given " + v + " of " + v, false);
                Due.is("given", x.told(4), v);
            }
            for (int minutes : new int[] {19, 20}) gives(at(kind, 9, minutes, 9, 0), minutes + " minutes", minutes < 20);
            gives(at(kind, 9, 20, 9, 5), "20 minutes behind 5", false);
        }
        Due.sentence("FAIR: as STRICT, but not if HABIT is above 3 times v");
        for (int v = 1; v <= 9; v++) {
            for (int habit : new int[] {0, 3 * v - 1, 3 * v, 3 * v + 1, 999}) {
                MoreStory x = at(5, v, 1, 0, 0);
                x.habit(0, habit);
                gives(x, "v " + v + ", habit " + habit, habit <= 3 * v);
                MoreStory strict = at(2, v, 1, 0, 0);
                strict.habit(0, habit);
                gives(strict, "strict, habit " + habit, true);
            }
        }
    }

    private static void tiredGives() {
        Due.sentence("TIRED: if its MINUTES are v or less");
        for (int kind : new int[] {3, 6}) {
            for (int v = 0; v <= 9; v++) {
                for (int minutes : new int[] {1, v - 1, v, v + 1, 20}) {
                    if (minutes < 1) continue;
                    gives(at(kind, v, minutes, 9, 0), "v " + v + ", " + minutes + " minutes", minutes <= v);
                    gives(at(kind, v, minutes, 9, 19), "v " + v + ", " + minutes + " minutes at 19", minutes <= v);
                    gives(at(kind, v, minutes, 9, 20), "v " + v + ", " + minutes + " minutes at 20", minutes <= v);
                }
            }
        }
        Due.sentence("TOLD: as TIRED, but never, if its ROW at EVENING modulo 4 is 0");
        for (int part = 0; part < 4; part++) {
            MoreStory x = at(6, 5, 5, 0, 0), y = at(6, 5, 5, 0, 0);
            x.row(0, part, 0);
            for (int p = 0; p < 4; p++) y.row(0, p, p == part ? 1 : 0);
            for (int evening = 0; evening < 9; evening++) {
                gives(x, "0 at " + part + ", evening " + evening, evening % 4 != part);
                gives(y, "1 at " + part + ", evening " + evening, evening % 4 == part);
                x.night();
                y.night();
            }
        }
    }

    public static void main(String[] args) {
        things();
        parents();
        at();
        of();
        habit();
        row();
        parentGives();
        softGives();
        strictGives();
        tiredGives();
        Due.end();
    }
}
