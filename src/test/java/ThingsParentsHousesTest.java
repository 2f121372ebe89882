/** Promises 1 to 10. */
public final class ThingsParentsHousesTest {
    private static final int MIN = Integer.MIN_VALUE, MAX = Integer.MAX_VALUE;

    private static void promise1() {
        MoreStory x = new MoreStory();
        for (int what = 0; what <= 6; what++) Due.is("new count " + what, x.count(what), 0);
        int[] told = {0, 0, 0, 0, 0, 0, 60, 30, 0};
        for (int what = 0; what <= 8; what++) Due.is("new told " + what, x.told(what), told[what]);
        Due.is("new at", x.at(0, 0), -1);
        Due.is("new of", x.of(0, 0), -1);
        Due.is("new undo", x.undo(), -3);
        Due.is("new trace", x.trace(0), -1);
        for (int tape = 0; tape < 6; tape++) Due.is("new read", x.read(tape, 0), MoreStory.NO);
        for (int tape = 0; tape < 6; tape++) Due.is("new item", x.item(tape, 0, 1), -11);
        MoreStory other = new MoreStory();
        x.thing(3, 3);
        Due.is("another object", other.count(1), 0);
    }

    private static void constants() {
        Due.is("NONE", MoreStory.NONE, -1);
        Due.is("BAD", MoreStory.BAD, -2);
        Due.is("STATE", MoreStory.STATE, -3);
        Due.is("FULL", MoreStory.FULL, -4);
        Due.is("NO", MoreStory.NO, Long.MIN_VALUE);
    }

    private static void promise2() {
        MoreStory x = new MoreStory();
        int[][] bad = {{0, 0}, {21, 0}, {-1, 0}, {MIN, 0}, {MAX, 0}, {1, -1}, {1, 10}, {1, MIN}, {1, MAX}};
        for (int[] b : bad) Due.is("thing " + b[0] + " " + b[1], x.thing(b[0], b[1]), -2);
        Due.is("none came", x.count(1), 0);
        Due.is("thing 1 0", x.thing(1, 0), 0);
        Due.is("thing 20 9", x.thing(20, 9), 1);
        for (int i = 2; i < 7; i++) Due.is("thing", x.thing(i, i), i);
        for (int[] b : bad) Due.is("bad when full", x.thing(b[0], b[1]), -2);
        Due.is("full", x.thing(5, 5), -4);
        Due.is("seven", x.count(1), 7);
    }

    private static void promise3() {
        MoreStory x = new MoreStory();
        Due.is("parent -1", x.parent(-1, 0), -1);
        Due.is("parent 7", x.parent(7, 0), -1);
        Due.is("kind ahead of v", x.parent(7, 10), -1);
        Due.is("parent MAX", x.parent(MAX, 0), -1);
        Due.is("v -1", x.parent(0, -1), -2);
        Due.is("v 10", x.parent(6, 10), -2);
        Due.is("none came", x.count(0), 0);
        int[] kinds = {0, 6, 3, 5};
        for (int i = 0; i < 4; i++) Due.is("parent " + kinds[i], x.parent(kinds[i], 9 - i), i);
        for (int i = 0; i < 4; i++) Due.is("kind", x.of(i, 0), kinds[i]);
        for (int i = 0; i < 4; i++) Due.is("v", x.of(i, 1), 9 - i);
        Due.is("full", x.parent(0, 0), -4);
        Due.is("kind ahead of full", x.parent(-1, 0), -1);
        Due.is("v ahead of full", x.parent(0, 10), -2);
        Due.is("four", x.count(0), 4);
        for (int part = 0; part < 4; part++) Due.is("1 at first", x.row(1, part, 1), 1);
    }

    private static void promise4() {
        MoreStory x = new MoreStory();
        Due.things(x, 20, 9, 1, 0, 7, 3);
        x.habit(2, 41);
        int[][] all = {{20, 9, 0}, {1, 0, 0}, {7, 3, 41}};
        for (int t = 0; t < 3; t++) {
            for (int what = 0; what < 3; what++) Due.is("at " + t + " " + what, x.at(t, what), all[t][what]);
            for (int what : new int[] {-1, 3, MIN, MAX}) Due.is("at no what", x.at(t, what), -1);
        }
        for (int t : new int[] {-1, 3, 7, MIN, MAX}) Due.is("at no thing", x.at(t, 0), -1);
    }

    /** Whether each kind gives, told by hand. The late is 20; things take 5, 8, 20 minutes, sweet 7, 6, 9. */
    private static void gives() {
        MoreStory x = Due.with("late 20;deep 90;calm 1 t>9;fuss 0 t>9");
        Due.things(x, 5, 7, 8, 6, 20, 9);
        Due.parents(x, 0, 0, 1, 0, 2, 1, 3, 8);
        for (int i = 0; i < 4; i++) {
            Due.is("early 5", x.of(i, 10), 1);
            Due.is("early 8", x.of(i, 11), 1);
            Due.is("20 is not below 20", x.of(i, 12), 0);
        }
        Due.is("given", x.ask(0), 1);
        Due.is("strict has given 1 of 1", x.of(2, 10), 0);
        Due.is("the first goes on", x.of(0, 10), 1);
        Due.is("given by tired", x.ask(3), 1);
        Due.is("13 and 5 are below 20", x.of(0, 10), 1);
        Due.is("13 and 8 are not", x.of(0, 11), 0);
        Due.is("soft neither", x.of(1, 11), 0);
        Due.is("tired is", x.of(3, 11), 1);
        Due.is("no of 20", x.ask(0), 0);
        Due.is("one no is too few", x.of(1, 12), 0);
        Due.is("14 and 5 are below 20", x.ask(2), 0);
        Due.is("two nos", x.told(3), 2);
        Due.is("soft melts", x.of(1, 12), 1);
        Due.is("the first does not", x.of(0, 12), 0);
    }

    private static void givesUnder() {
        MoreStory x = Due.with("late 20;deep 90;calm 1 t>9;fuss 0 t>9");
        Due.things(x, 5, 6, 20, 7, 8, 9);
        Due.parents(x, 4, 0, 5, 2, 6, 5, 2, 9);
        Due.is("melting 5", x.of(0, 10), 1);
        Due.is("melting sweet 7", x.of(0, 11), 1);
        Due.is("fair 5", x.of(1, 10), 1);
        Due.is("fair 20", x.of(1, 11), 0);
        x.habit(0, 6);
        Due.is("habit 6 is 3 times 2", x.of(1, 10), 1);
        x.habit(0, 7);
        Due.is("habit 7 is above", x.of(1, 10), 0);
        x.habit(0, 0);
        Due.is("told 5", x.of(2, 10), 1);
        Due.is("told 8", x.of(2, 12), 0);
        Due.is("row of part 1", x.row(2, 1, 0), 1);
        Due.is("evening 0", x.of(2, 10), 1);
        x.night();
        Due.is("evening 1", x.of(2, 10), 0);
        x.night();
        Due.is("evening 2", x.of(2, 10), 1);
        for (int i = 0; i < 3; i++) x.night();
        Due.is("evening 5", x.of(2, 10), 0);
        Due.is("8 minutes", x.ask(3), 1);
        Due.is("no", x.ask(3), 0);
        Due.is("8", x.ask(3), 1);
        Due.is("14", x.told(1), 14);
        Due.is("two given of two", x.of(1, 10), 0);
        Due.is("melting: 6 is not sweet enough", x.of(0, 12) * 10 + x.of(0, 10), 11);
        Due.is("14 and 5", x.ask(3), 1);
        Due.is("19 and 5", x.of(0, 10), 0);
    }

    private static void promise5() {
        gives();
        givesUnder();
        MoreStory x = Due.with("calm 7 t=0;calm 3 t<2;fuss 5 k=2;fuss 1 p=0");
        Due.things(x, 1, 1, 2, 2, 3, 3);
        Due.parents(x, 0, 4, 2, 6);
        int[] calm = {10, 3, 0};
        for (int t = 0; t < 3; t++) {
            for (int i = 0; i < 2; i++) Due.is("calm", x.of(i, 20 + t), calm[t]);
            Due.is("fuss of 0", x.of(0, 30 + t), 1);
            Due.is("fuss of 1", x.of(1, 30 + t), 5);
        }
        for (int what : new int[] {-1, 2, 9, 13, 19, 23, 33, 37, 40, 50, MIN, MAX}) {
            Due.is("of no what " + what, x.of(0, what), -1);
        }
        for (int i : new int[] {-1, 2, 4, MIN, MAX}) Due.is("of nobody", x.of(i, 0), -1);
        MoreStory none = new MoreStory();
        Due.things(none, 1, 1);
        Due.parents(none, 0, 0);
        Due.is("calm without", none.of(0, 20), 4);
        Due.is("fuss without", none.of(0, 30), 2);
        MoreStory other = Due.with("late 9");
        Due.things(other, 1, 1);
        Due.parents(other, 0, 0);
        Due.is("calm without clauses of it", other.of(0, 20), 4);
        Due.is("fuss without clauses of it", other.of(0, 30), 2);
    }

    private static void promise6() {
        MoreStory x = new MoreStory();
        Due.things(x, 5, 5, 6, 6);
        Due.is("was 0", x.habit(1, 999), 0);
        Due.is("was 999", x.habit(1, 0), 999);
        Due.is("was 0 again", x.habit(1, 17), 0);
        Due.is("1000", x.habit(1, 1000), -2);
        Due.is("-1", x.habit(1, -1), -2);
        Due.is("stays", x.at(1, 2), 17);
        Due.is("the other", x.at(0, 2), 0);
        Due.is("no thing", x.habit(2, 5), -1);
        Due.is("no thing, bad n", x.habit(-1, 1000), -1);
    }

    private static void promise7() {
        MoreStory x = new MoreStory();
        Due.things(x, 5, 5);
        Due.parents(x, 3, 9, 6, 9, 6, 9);
        Due.is("was 1", x.row(1, 3, 0), 1);
        Due.is("was 0", x.row(1, 3, 0), 0);
        Due.is("was 0", x.row(1, 3, 1), 0);
        Due.is("the other's", x.row(2, 3, 0), 1);
        Due.is("its own", x.row(1, 3, 0), 1);
        Due.is("no part", x.row(1, 4, 0), -1);
        Due.is("no part", x.row(1, -1, 0), -1);
        Due.is("nobody", x.row(3, 0, 0), -1);
        Due.is("nobody", x.row(-1, 0, 9), -1);
        Due.is("part ahead of n", x.row(1, 4, 2), -1);
        Due.is("n 2", x.row(1, 0, 2), -2);
        Due.is("n -1", x.row(1, 0, -1), -2);
        Due.is("n ahead of the kind", x.row(0, 0, 2), -2);
        Due.is("another kind", x.row(0, 0, 1), -3);
    }

    private static void promise8() {
        MoreStory x = new MoreStory();
        Due.is("-1", x.feed(-1), -2);
        Due.is("128", x.feed(128), -2);
        Due.is("0", x.feed(0), 1);
        Due.is("127", x.feed(127), 2);
        for (int i = 3; i <= 100; i++) Due.is("feed", x.feed(65), i);
        Due.is("full", x.feed(65), -4);
        Due.is("bad ahead of full", x.feed(128), -2);
        Due.is("100", x.count(5), 100);
        Due.is("fault at 0", x.house(), -10);
        Due.is("empty then", x.feed(65), 1);
    }

    private static void faults() {
        String[] texts = {"", "x", "c", "calm", "calm ", "calm x", "calm 1", "calm 1 ", "calm 12", "calm 123", "calm  1",
            "calm 1 p", "calm 1 p=", "calm 1 p=x", "calm 1 p=123", "calm 1 p==1", "calm 1 x=1", "calm 1 p=1 ", "calm 1 p=1;",
            "calm 1 p=1&", "calm 1 p=1|", "calm 1 p=1|&", "calm 1 (p=1", "calm 1 (p=1;", "calm 1 p=1)", "calm 1 ()",
            "calm 1 (p=1)p", "calm 1 !", "calm 1 !&", "late", "late 1 ", "late 1 p=1", "deep 1;;", " late 1", "late 1; deep 1",
            "Late 1", "calm 1 !!!!!p=1", "calm 1 (((((p=1", "calm 1 !(!(!p=1))", "calm 1 !(!(p=1))&!!(!(!p=1))",
            "fuss 1 p=1&!!!!p=1|!!!!!", "lateral", "fusy", "deer", "calm 1;", "late 1 ;", "calm -1 p=1", "late 1,"};
        int[] faults = {0, 0, 1, 4, 5, 5, 6, 7, 7, 7, 5,
            8, 9, 9, 11, 9, 7, 10, 11,
            11, 11, 11, 11, 11, 10, 8,
            12, 8, 8, 4, 6, 6, 7, 0, 7,
            0, 11, 11, 11, 21,
            23, 4, 3, 3, 6, 6, 5, 6};
        for (int i = 0; i < texts.length; i++) {
            Due.is("fault of '" + texts[i] + "'", Due.house(new MoreStory(), texts[i]), -10 - faults[i]);
        }
    }

    private static void goodTexts() {
        String[] texts = {"late 0", "deep 99", "late 00", "calm 0 p<0", "calm 1 !!!!p=1", "calm 1 ((((p=1))))",
            "calm 1 !(!(p=1))&!(!(p=1))|!!!!h>99", "fuss 1 k=2|t=3&c<4|n>5&h=06", "late 1;late 1;late 1;late 1;late 1;late 1;"
            + "late 1;late 1;late 1;late 1", "calm 9 (p=1|p=2)&(t=1|(t=2&n>1))"};
        for (String text : texts) Due.is("house of '" + text + "'", Due.house(new MoreStory(), text), 0);
        String ten = "late 1;late 1;late 1;late 1;late 1;late 1;late 1;late 1;late 1;late 1";
        Due.is("an eleventh", Due.house(new MoreStory(), ten + ";late 1"), -10 - ten.length());
        StringBuilder hundred = new StringBuilder("calm 11 p=1");
        while (hundred.length() < 100) hundred.append(hundred.length() == 97 ? "&!p" : "&p=1");
        hundred.setLength(100);
        Due.is("a hundred, ended early", Due.house(new MoreStory(), hundred.toString()), -110);
        String long_ = "calm 1 p=11" + "&p=1".repeat(22) + "1";
        Due.is("a hundred", long_.length(), 100);
        MoreStory x = new MoreStory();
        for (int i = 0; i < 6; i++) Due.is("a house of a hundred", Due.house(x, long_), i);
    }

    /** A house with one calm clause of 1: its E holds or not. */
    private static void holds(String e, int thing, int due) {
        MoreStory x = Due.with("calm 1 " + e + ";fuss 2 p>9;late 99;deep 99");
        Due.things(x, 9, 1, 8, 2, 7, 3);
        Due.parents(x, 0, 0, 3, 5, 2, 9);
        x.habit(1, 207);
        x.ask(0);
        x.ask(0);
        x.ask(1);
        Due.is(e + " of " + thing, x.of(2, 20 + thing), due);
    }

    /** Then: p 2, k 2, the clock 18 (c 1), nos 1, habits 1, 208, 0. */
    private static void tests() {
        String[] yes = {"p=2", "p>1", "p<3", "k=2", "t=1", "c=1", "n=1", "h=8", "h=08", "t<2", "t>0", "p=0|p=2", "p=2&k=2",
            "!p=0", "!p=0&t=1", "!(p=0&t=1)", "(p=0|t=1)&k=2", "p=0&t=0|k=2", "k=2|p=0&t=0", "p=0|k=2&t=1", "!!p=2", "!(!p=2)",
            "p=0|p=1|p=2", "p=2&p=2&p=2", "!p=0&!p=1", "!(p=0|p=1)", "n<2&n>0", "c<2&c>0", "t<10"};
        String[] no = {"p=1", "p>2", "p<2", "k=3", "t=2", "c=2", "c=18", "n=0", "h=9", "h=20", "t<1", "t>1", "p=0|p=1", "p=2&k=1",
            "!p=2", "!p=2|t=0", "(p=0|t=1)&k=1", "(p=0|k=2)&t=0", "p=0&(t=0|k=2)", "!!p=0", "p=2&p=2&p=1", "!(p=0|p=2)", "!p=2&p=0",
            "p=1&p=2|p=0", "n=2|n=0"};
        for (String e : yes) holds(e, 1, 1);
        for (String e : no) holds(e, 1, 0);
        holds("h=1", 0, 1);
        holds("t=0", 0, 1);
        holds("h=0&t=2", 2, 1);
    }

    private static void promise9() {
        faults();
        goodTexts();
        tests();
        MoreStory x = new MoreStory();
        Due.is("first", Due.house(x, "late 40;deep 7;late 33;deep 22"), 0);
        Due.is("the last late", x.told(6), 33);
        Due.is("the last deep", x.told(7), 22);
        Due.is("fault", Due.house(x, "late 1;deep"), -21);
        Due.is("the text is empty then", x.count(5), 0);
        Due.is("the one that held holds", x.told(6), 33);
        Due.is("one house", x.count(2), 1);
        Due.is("second", Due.house(x, "deep 5"), 1);
        Due.is("late without", x.told(6), 60);
        Due.is("its deep", x.told(7), 5);
        for (int i = 2; i < 6; i++) Due.is("house", Due.house(x, "late 1" + i), i);
        Due.is("deep without", x.told(7), 30);
        Due.is("full", Due.house(x, "late 9"), -4);
        Due.is("the text stays", x.count(5), 6);
        Due.is("full ahead of a fault", Due.house(x, "!"), -4);
        Due.is("the text stays", x.count(5), 7);
        Due.is("the newest holds", x.told(6), 15);
        Due.is("six", x.count(2), 6);
    }

    private static void promise10() {
        MoreStory x = Due.with("late 12;deep 20;calm 6 t<9;fuss 1 t<9");
        Due.things(x, 3, 0, 9, 0);
        Due.parents(x, 0, 0);
        x.night();
        Due.is("3", x.ask(0), 1);
        Due.is("12 is not below 12", x.ask(0), 0);
        int[] told = {1, 4, 5, 1, 1, 0, 12, 20, 0};
        for (int what = 0; what <= 8; what++) Due.is("told " + what, x.told(what), told[what]);
        Due.is("7", x.ask(0), 1);
        Due.is("told 5", x.told(5), 1);
        for (int what : new int[] {-1, 9, MIN, MAX}) Due.is("told no what", x.told(what), -1);
        ends();
    }

    private static void ends() {
        MoreStory x = Due.with("late 5;deep 8;calm 4 t<9;fuss 0 t<9");
        Due.things(x, 2, 0);
        Due.parents(x, 0, 0, 3, 9);
        x.ask(1);
        x.ask(1);
        Due.is("clock 4, sleepy 8: sleeps", x.told(8), 1);
        MoreStory tears = Due.with("late 4;deep 9;calm 4 t<9;fuss 0 t<9");
        Due.things(tears, 2, 0);
        Due.parents(tears, 3, 9);
        tears.ask(0);
        Due.is("goes on", tears.told(8), 0);
        tears.ask(0);
        Due.is("clock 4: tears", tears.told(8), 2);
        Due.is("sleepy", tears.told(2), 8);
        MoreStory both = Due.with("late 4;deep 8;calm 4 t<9");
        Due.things(both, 2, 0);
        Due.parents(both, 3, 9);
        both.ask(0);
        both.ask(0);
        Due.is("sleeps first", both.told(8), 1);
        Due.is("late 0", Due.with("late 0").told(8), 2);
        Due.is("deep 0", Due.with("late 0;deep 0").told(8), 1);
    }

    public static void main(String[] args) {
        promise1();
        constants();
        promise2();
        promise3();
        promise4();
        promise5();
        promise6();
        promise7();
        promise8();
        promise9();
        promise10();
        Due.end();
    }
}
