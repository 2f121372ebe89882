/** Promises 8 and 9: where a text begins to be none, byte by byte, and the bounds of what a house tells. */
public final class HouseEdgesTest {
    private static void good(String text) {
        Due.is("'" + text + "'", Due.house(new MoreStory(), text), 0);
    }

    /** None of these bytes may stand behind the text; each is the fault then, whatever follows. */
    private static void bad(String text, String signs) {
        for (char sign : signs.toCharArray()) {
            fault(text + sign, text.length());
            fault(text + sign + "p=1", text.length());
        }
    }

    private static void early(String text) {
        fault(text, text.length());
    }

    private static void fault(String text, int due) {
        Due.is("the fault of '" + text + "'", -10 - Due.house(new MoreStory(), text), due);
    }

    private static void bytes() {
        Due.sentence("8: A sign (0 .. 127)");
        MoreStory x = new MoreStory();
        Due.is("0", x.feed(0), 1);
        Due.is("127", x.feed(127), 2);
        for (int sign : new int[] {-1, 128, Integer.MIN_VALUE, Integer.MAX_VALUE}) Due.is("sign " + sign, x.feed(sign), -2);
        Due.is("two", x.count(5), 2);
        Due.sentence("8: how many it has; THE TEXT (bytes, 100 at most)");
        for (int i = 3; i <= 100; i++) Due.is("feed", x.feed(32), i);
        Due.is("a 101st", x.feed(32), -4);
        Due.is("a hundred", x.count(5), 100);
        Due.is("its fault", x.house(), -10);
        Due.is("from the start", x.feed(32), 1);
        hundred();
    }

    private static void hundred() {
        Due.sentence("9: a text of 100 bytes");
        String full = "calm 1 p=11" + "&p=1".repeat(22) + "1";
        Due.is("bytes", full.length(), 100);
        MoreStory x = new MoreStory();
        Due.text(x, full);
        Due.is("one more", x.feed('1'), -4);
        Due.is("house", x.house(), 0);
        fault(full.substring(0, 99) + "&", 100);
        fault(full.substring(0, 99) + "x", 99);
        fault(full.substring(0, 95) + "|!!!!", 100);
        Due.is("its text is empty then", x.count(5), 0);
    }

    private static void clauses() {
        Due.sentence("9: CLAUSES, 1 to 10, with ; between");
        early("");
        String all = "late 1";
        for (int n = 1; n <= 10; n++) {
            good(all);
            if (n < 10) early(all + ";");
            else fault(all + ";", all.length());
            all = all + ";late 1";
        }
        fault(all, all.length() - 7);
        fault(all + ";!", all.length() - 7);
        bad("", "; xLCFD!(p0");
        bad("late 1;", "; x");
        bad("late 1", ",:| l");
        bad("calm 1 p=1", ", !(pc");
        bad("late 11", "1 ");
        early("deep 5;deep");
    }

    private static void words() {
        Due.sentence("9: calm n E; fuss n E; late n; deep n");
        for (String word : new String[] {"calm", "fuss", "late", "deep"}) {
            for (int i = 1; i < 4; i++) {
                early(word.substring(0, i));
                bad(word.substring(0, i), "x 1");
                bad(word.substring(0, i), word.substring(i, i + 1).toUpperCase());
            }
            early(word);
            bad(word, "sx1;");
            early(word + " ");
            bad(word + " ", " x;-+/:(");
        }
        good("late 1");
        good("deep 1");
        good("calm 1 p=1");
        good("fuss 1 p=1");
        for (String word : new String[] {"calm 1", "fuss 1", "calm 12", "fuss 12"}) {
            early(word);
            bad(word, ";p,");
            early(word + " ");
            bad(word + " ", " ;1=)&|");
        }
        for (String word : new String[] {"late 1", "deep 1"}) bad(word, " p!(&|");
        fault("late 1 p=1", 6);
        fault("deep 99 p=1", 7);
    }

    private static void blanks() {
        Due.sentence("9: one blank ahead of each part behind the word");
        fault(" late 1", 0);
        fault("late1", 4);
        fault("late  1", 5);
        fault("late\t1", 4);
        fault("late 1 ", 6);
        fault("late 1 ;late 1", 6);
        fault("late 1; late 1", 7);
        fault("calm 1p=1", 6);
        fault("calm 1  p=1", 7);
        fault("calm 1 p =1", 8);
        fault("calm 1 p= 1", 9);
        fault("calm 1 p=1 ", 10);
        fault("calm 1 p=1 &p=1", 10);
        fault("calm 1 p=1& p=1", 11);
        fault("calm 1 p=1| p=1", 11);
        fault("calm 1 ! p=1", 8);
        fault("calm 1 ( p=1)", 8);
        fault("calm 1 (p=1 )", 11);
    }

    private static void numbers() {
        Due.sentence("9: n 1 or 2 digits");
        for (String word : new String[] {"late ", "deep "}) {
            for (String n : new String[] {"0", "9", "00", "09", "10", "99"}) good(word + n);
            fault(word + "100", 7);
            fault(word + "000", 7);
            fault(word + "-1", 5);
        }
        good("calm 0 p=1");
        good("fuss 99 p=1");
        fault("calm 100 p=1", 7);
        fault("fuss 001 p=1", 7);
        Due.sentence("9: a number (1 or 2 digits)");
        for (String n : new String[] {"0", "9", "00", "09", "10", "99"}) good("calm 1 p=" + n);
        early("calm 1 p=");
        bad("calm 1 p=", "/:px-;)!");
        bad("calm 1 p=9", "/:px-)!");
        fault("calm 1 p=100", 11);
        fault("calm 1 p=99;", 12);
    }

    private static void tests() {
        Due.sentence("9: a TEST: a letter, < or = or >");
        for (char letter : "pktcnh".toCharArray()) {
            for (char sign : "<=>".toCharArray()) good("calm 1 " + letter + sign + "1");
            early("calm 1 " + letter);
            bad("calm 1 " + letter, ";?! 1&" + letter);
            bad("calm 1 " + letter + "<", "=><");
        }
        bad("calm 1 ", "oqjlsubdmgiPKTCNH<=>019;&|) ~");
        bad("calm 1 p>", "=");
        Due.sentence("9: E: T or T|E. T: F or F&T");
        good("calm 1 p=1|p=1|p=1");
        good("calm 1 p=1&p=1&p=1");
        good("calm 1 p=1|p=1&p=1|p=1");
        for (char sign : "|&".toCharArray()) {
            early("calm 1 p=1" + sign);
            bad("calm 1 p=1" + sign, "|&); 1=");
            bad("calm 1 (p=1" + sign, "|&); ");
        }
    }

    private static void factors() {
        Due.sentence("9: F: !F, (E), or a TEST");
        good("calm 1 !p=1");
        good("calm 1 (p=1)");
        good("calm 1 !(p=1)");
        good("calm 1 (!p=1)");
        good("calm 1 (p=1|p=1&p=1)");
        early("calm 1 !");
        early("calm 1 (");
        early("calm 1 (p=1");
        early("calm 1 ((p=1)");
        bad("calm 1 !", "); &|1");
        bad("calm 1 (", "); &|1");
        bad("calm 1 (p=1", "; !(p");
        bad("calm 1 (p=1)", ")(!p 1");
        bad("calm 1 p=1", ")");
        bad("calm 1 p=1&p=1", ")");
    }

    private static void depth() {
        Due.sentence("9: A ( or ! within 4 others is none");
        String[] open = {"", "!", "(", "!!", "((", "!(", "(!", "!!!", "(((", "!(!", "(!(", "!!(", "((!"};
        for (String o : open) {
            good("calm 1 " + o + "p=1" + ")".repeat(o.replace("!", "").length()));
        }
        for (int bits = 0; bits < 16; bits++) {
            StringBuilder four = new StringBuilder();
            for (int i = 0; i < 4; i++) four.append((bits >> i & 1) == 0 ? '!' : '(');
            String closed = ")".repeat(Integer.bitCount(bits)), text = "calm 1 " + four;
            good(text + "p=1" + closed);
            bad(text, "!(");
            good(text + "p=1" + closed + "&" + four + "p=1" + closed);
            good(text + "p=1" + closed + "|" + four + "p=1" + closed);
        }
        Due.sentence("9: within 4 others, not behind them");
        good("calm 1 !p=1&!p=1&!p=1&!p=1&!p=1&!p=1");
        good("calm 1 (p=1)|(p=1)|(p=1)|(p=1)|(p=1)|(p=1)");
        good("calm 1 (((!p=1)&!p=1)&!p=1)&!p=1");
        good("calm 1 (((!p=1&!p=1)))");
        good("calm 1 !!!(p=1&p=2|p=3)");
        fault("calm 1 (((!p=1&!!p=1)))", 16);
        good("calm 1 (((p=1)&(p=1&(p=1))))");
        fault("calm 1 (((p=1)&(p=1&((p=1)))))", 21);
        fault("calm 1 !!!!!p=1", 11);
        fault("calm 1 !!!(p=1&!p=1)", 15);
    }

    private static void held() {
        Due.sentence("9: (6 at most); FULL: there are 6 (THE TEXT stays)");
        MoreStory x = new MoreStory();
        for (int i = 0; i < 6; i++) Due.is("house", Due.house(x, "late 1" + i + ";deep 2" + i), i);
        Due.is("a seventh", Due.house(x, "late 9"), -4);
        Due.is("six", x.count(2), 6);
        Due.is("the text stays", x.count(5), 6);
        Due.is("late of the sixth", x.told(6), 15);
        Due.is("deep of the sixth", x.told(7), 25);
        Due.sentence("9: with a FAULT there is none more");
        MoreStory y = new MoreStory();
        for (int i = 0; i < 9; i++) Due.is("a fault", Due.house(y, "late"), -14);
        Due.is("none", y.count(2), 0);
        Due.is("late without", y.told(6), 60);
        for (int i = 0; i < 6; i++) Due.is("house", Due.house(y, "late 1"), i);
        Due.sentence("9: THE TEXT, which is empty then");
        MoreStory z = new MoreStory();
        Due.is("good", Due.house(z, "late 1"), 0);
        Due.is("empty", z.count(5), 0);
        Due.is("a fault", Due.house(z, "late 1x"), -16);
        Due.is("empty", z.count(5), 0);
        Due.is("of nothing", z.house(), -10);
        Due.is("the next", Due.house(z, "deep 1"), 1);
    }

    private static void told() {
        Due.sentence("9: late (60 without), deep (30 without): the last one's n");
        String[] texts = {"", "late 0", "deep 0", "late 99;deep 99", "late 5;late 7", "late 7;late 5", "deep 5;late 1;deep 7", "calm 1 p=1",
            "deep 7;late 2;deep 5", "fuss 50 p=1"};
        int[] late = {60, 0, 60, 99, 7, 5, 1, 60, 2, 60}, deep = {30, 30, 0, 99, 30, 30, 7, 30, 5, 30};
        for (int i = 0; i < texts.length; i++) {
            MoreStory x = Due.with(texts[i]);
            Due.is("late of '" + texts[i] + "'", x.told(6), late[i]);
            Due.is("deep of '" + texts[i] + "'", x.told(7), deep[i]);
        }
        Due.sentence("9: the newest HOUSE holds: nothing is left of the one ahead");
        MoreStory x = Due.with("late 9;deep 9;calm 9 p<9;fuss 9 p<9");
        Due.minutes(x, 1);
        Due.parents(x, 0, 0);
        Due.is("calm", x.of(0, 20), 9);
        Due.is("fuss", x.of(0, 30), 9);
        Due.is("house", Due.house(x, "late 8"), 1);
        Due.is("late", x.told(6), 8);
        Due.is("deep", x.told(7), 30);
        Due.is("calm", x.of(0, 20), 4);
        Due.is("fuss", x.of(0, 30), 2);
    }

    private static void sums(String text, int calm, int fuss) {
        MoreStory x = text.isEmpty() ? new MoreStory() : Due.with(text);
        Due.minutes(x, 1);
        Due.parents(x, 0, 0);
        Due.is("calm of '" + text + "'", x.of(0, 20), calm);
        Due.is("fuss of '" + text + "'", x.of(0, 30), fuss);
    }

    private static void together() {
        Due.sentence("9: CALM: the n of all calm whose E holds, together (4, if there are no calm CLAUSES at all); FUSS (2)");
        sums("", 4, 2);
        sums("late 9", 4, 2);
        sums("calm 7 p=0", 7, 2);
        sums("fuss 7 p=0", 4, 7);
        sums("calm 7 p=1", 0, 2);
        sums("fuss 7 p=1", 4, 0);
        sums("calm 0 p=0", 0, 2);
        sums("fuss 0 p=0", 4, 0);
        sums("calm 7 p=0;calm 5 p=1;calm 3 p=0", 10, 2);
        sums("fuss 7 p=0;fuss 5 p=1;fuss 3 p=0", 4, 10);
        sums("fuss 1 p=0;calm 2 p=0;late 9;calm 4 p=0;fuss 8 p=0", 6, 9);
        sums("calm 99 p<1;".repeat(8).substring(0, 95), 792, 2);
        sums("fuss 99 p<1;".repeat(8).substring(0, 95), 4, 792);
    }

    /** A letter's value, asked with < = > and the numbers beside it, 0 and 99. */
    private static void value(Whole.Scene made, int parent, int thing, char letter, int value) {
        for (int n : new int[] {0, value - 1, value, value + 1, 99}) {
            if (n < 0 || n > 99) continue;
            test(made, parent, thing, letter + "<" + n, value < n);
            test(made, parent, thing, letter + "=" + n, value == n);
            test(made, parent, thing, letter + ">" + n, value > n);
        }
    }

    private static void test(Whole.Scene made, int parent, int thing, String test, boolean due) {
        MoreStory x = made.anew();
        Due.is("house", Due.house(x, "calm 1 " + test + ";fuss 2 " + test), x.count(2) - 1);
        Due.is(test + " of " + parent + " and " + thing + ", calm", x.of(parent, 20 + thing), due ? 1 : 0);
        Due.is(test + " of " + parent + " and " + thing + ", fuss", x.of(parent, 30 + thing), due ? 2 : 0);
    }

    private static MoreStory many(int first) {
        MoreStory x = new MoreStory();
        Due.minutes(x, 1, 2, 3, 4, 5, 6, 20);
        for (int kind = first; kind < first + 4; kind++) x.parent(kind, 9);
        return x;
    }

    private static void numbersOf() {
        Due.sentence("9: p the number of the first, k its KIND, t the number of the second");
        for (int p = 0; p < 4; p++) value(() -> many(0), p, 0, 'p', p);
        for (int kind = 0; kind < 7; kind++) {
            int first = Math.min(kind, 3);
            value(() -> many(first), kind - first, 6, 'k', kind);
        }
        for (int t = 0; t < 7; t++) value(() -> many(0), 3, t, 't', t);
    }

    /** A clock and nos: asks that are refused by a STRICT one of 0, then of a SOFT one, who gives 20 minutes. */
    private static MoreStory clock(int nos, int gifts) {
        MoreStory x = Due.with("late 99;fuss 0 p<9;calm 0 p<9");
        Due.minutes(x, 20);
        Due.parents(x, 2, 0, 1, 0);
        Due.asks(x, 0, nos);
        Due.asks(x, 1, gifts);
        return x;
    }

    private static void clocks() {
        Due.sentence("9: c CLOCK by 10 (cut)");
        int[][] all = {{0, 0, 0}, {1, 0, 0}, {9, 0, 0}, {10, 0, 1}, {11, 0, 1}, {19, 0, 1}, {20, 0, 2}, {98, 0, 9}, {99, 0, 9},
            {78, 1, 9}, {79, 1, 9}, {98, 1, 11}, {10, 4, 9}, {0, 4, 8}};
        for (int[] a : all) value(() -> clock(a[0], a[1]), 0, 0, 'c', a[2]);
        Due.sentence("9: n NOS");
        for (int nos : new int[] {0, 1, 2, 9, 10, 98, 99}) value(() -> clock(nos, 0), 0, 0, 'n', nos);
        for (int nos : new int[] {2, 50}) value(() -> clock(nos, 1), 0, 0, 'n', 0);
    }

    private static MoreStory habit(int n) {
        MoreStory x = many(0);
        x.habit(1, n);
        return x;
    }

    private static void habits() {
        Due.sentence("9: h HABIT modulo 100");
        for (int n : new int[] {0, 1, 99, 100, 101, 199, 200, 550, 899, 900, 998, 999}) value(() -> habit(n), 0, 1, 'h', n % 100);
        for (int t : new int[] {0, 2}) value(() -> habit(999), 0, t, 'h', 0);
    }

    public static void main(String[] args) {
        bytes();
        clauses();
        words();
        blanks();
        numbers();
        tests();
        factors();
        depth();
        held();
        told();
        together();
        numbersOf();
        clocks();
        habits();
        Due.end();
    }
}
