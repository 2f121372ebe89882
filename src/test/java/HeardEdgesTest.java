/** Promises 22 to 28: what is heard and the book from empty to full, by 60 ASKS, fractions in lowest terms. */
public final class HeardEdgesTest {
    private static final int MIN = Integer.MIN_VALUE, MAX = Integer.MAX_VALUE;
    private static final long NO = Long.MIN_VALUE;

    private static void hear() {
        Due.sentence("22: What is HEARD comes: how many there are. FULL: 8");
        for (boolean given : new boolean[] {false, true}) {
            MoreStory x = new MoreStory();
            for (int i = 1; i <= 8; i++) {
                Due.is("hear " + given, x.hear(given), i);
                Due.is("how many", x.count(3), i);
            }
            for (int i = 0; i < 3; i++) Due.is("a ninth", x.hear(!given), -4);
            Due.is("how many", x.count(3), 8);
            Due.sentence("23: Nothing is HEARD then: how many there were");
            Due.is("eight were", x.hush(), 8);
            Due.is("none", x.count(3), 0);
            Due.is("none were", x.hush(), 0);
            Due.is("the first again", x.hear(given), 1);
        }
        for (int n = 0; n <= 8; n++) {
            MoreStory x = new MoreStory();
            for (int i = 0; i < n; i++) x.hear(true);
            Due.is("were", x.hush(), n);
            Due.is("none", x.count(3), 0);
        }
    }

    private static void who(MoreStory x, String heard, int due) {
        x.hush();
        for (char sign : heard.toCharArray()) x.hear(sign == '+');
        Due.is("who of '" + heard + "'", x.who(), due);
    }

    /** TIRED with 5, 4, 3 and STRICT with 0; things of 5, 4, 20 minutes. */
    private static MoreStory four(String text) {
        MoreStory x = Due.with(text);
        Due.minutes(x, 5, 4, 20);
        Due.parents(x, 3, 5, 3, 4, 3, 3, 2, 0);
        return x;
    }

    private static void who() {
        Due.sentence("24: those PARENTS, as bits, who, ASKED alone from now on, make all of that so");
        MoreStory x = four("late 99;deep 99;calm 1 p<9");
        who(x, "", 15);
        who(x, "+", 1);
        who(x, "-", 14);
        who(x, "++", 1);
        who(x, "-+", 2);
        who(x, "+-", 0);
        who(x, "--", 12);
        who(x, "++-++-++", 1);
        who(x, "++-++-+-", 0);
        who(x, "-+--+--+", 2);
        who(x, "-+--+---", 0);
        who(x, "--------", 12);
        who(x, "-------+", 0);
        Due.is("as many", x.count(3), 8);
        x.ask(3);
        who(x, "+-", 3);
        who(x, "+-+", 1);
        Due.sentence("24: (not so, if there can not be so many ASKS)");
        for (int late = 0; late <= 8; late++) {
            MoreStory y = four("late " + late + ";deep 99");
            who(y, "-".repeat(late), late == 0 ? 15 : late == 1 ? 14 : 12);
            if (late < 8) who(y, "-".repeat(late + 1), 0);
        }
        MoreStory over = four("late 5;deep 99");
        over.ask(0);
        Due.is("over", over.told(8), 2);
        who(over, "", 15);
        who(over, "+", 0);
        who(over, "-", 0);
        MoreStory sleeps = four("late 99;deep 8");
        who(sleeps, "++", 1);
        who(sleeps, "++-", 0);
        who(sleeps, "++-+", 0);
        MoreStory none = new MoreStory();
        Due.parents(none, 0, 0, 2, 0);
        who(none, "", 3);
        who(none, "+", 0);
        who(none, "-", 0);
    }

    private static void odds(MoreStory x, int parent, long above, long below) {
        Due.is("above", x.odds(parent, 0), above);
        Due.is("below", x.odds(parent, 1), below);
    }

    /** So many things, of which so many, begun with, make her sleep. */
    private static MoreStory begun(int things, int good) {
        MoreStory x = Due.with("late 99;deep 5;calm 5 t<" + good);
        for (int t = 0; t < things; t++) x.thing(5, 0);
        Due.parents(x, 2, 1, 2, 0);
        return x;
    }

    private static void odds() {
        Due.sentence("25: a fraction in lowest terms (NO: there are no THINGS)");
        for (int things = 1; things <= 7; things++) {
            for (int good = 0; good <= things; good++) {
                int divisor = things;
                while (good % divisor != 0 || things % divisor != 0) divisor--;
                odds(begun(things, good), 0, good / divisor, things / divisor);
            }
            odds(begun(things, 7), 1, 0, 1);
        }
        MoreStory none = begun(0, 7);
        odds(none, 0, NO, NO);
        none.thing(5, 0);
        odds(none, 0, 1, 1);
        Due.sentence("25: part 0 above, 1 below the line. NO");
        MoreStory x = begun(4, 2);
        odds(x, 0, 1, 2);
        for (int part : new int[] {-1, 2, MIN, MAX}) Due.is("part " + part, x.odds(0, part), NO);
        for (int p : new int[] {-1, 2, MIN, MAX}) odds(x, p, NO, NO);
        Due.sentence("25: whatever is ONE now");
        for (int i = 0; i < 6; i++) {
            odds(x, 0, 1, 2);
            x.ask(1);
        }
        Due.sentence("25: by 60 ASKS");
        for (int deep = 59; deep <= 61; deep++) {
            MoreStory y = Due.with("late 99;deep " + deep + ";calm 1 p<9");
            Due.minutes(y, 1);
            Due.parents(y, 3, 9);
            odds(y, 0, deep <= 60 ? 1 : 0, 1);
        }
        Due.sentence("25: from how all is now");
        MoreStory given = begun(3, 3);
        given.ask(1);
        odds(given, 0, 1, 1);
        given.ask(0);
        odds(given, 1, 1, 1);
        MoreStory strict = begun(3, 0);
        strict.ask(0);
        odds(strict, 0, 0, 1);
        MoreStory tears = Due.with("late 1;deep 5");
        Due.minutes(tears, 1, 1);
        Due.parents(tears, 3, 9);
        tears.ask(0);
        odds(tears, 0, 0, 1);
    }

    private static void mean(MoreStory x, long above, long below) {
        Due.is("above", x.mean(0), above);
        Due.is("below", x.mean(1), below);
    }

    /** TIRED with 9 gives at once, and she sleeps; STRICT with 0 never does, and there are 60 asks. */
    private static void mean() {
        Due.sentence("26: a fraction in lowest terms (NO: nobody)");
        MoreStory x = Due.with("late 99;deep 4;calm 4 p<9");
        mean(x, NO, NO);
        x.thing(3, 0);
        mean(x, NO, NO);
        Due.parents(x, 3, 9);
        mean(x, 3, 1);
        Due.parents(x, 2, 0);
        mean(x, 63, 2);
        Due.parents(x, 2, 0);
        mean(x, 41, 1);
        Due.parents(x, 2, 0);
        mean(x, 183, 4);
        MoreStory y = Due.with("late 99;deep 4;calm 4 p<9");
        y.thing(4, 0);
        Due.parents(y, 3, 9, 3, 9, 2, 0, 2, 0);
        mean(y, 32, 1);
        MoreStory z = Due.with("late 99;deep 4;calm 4 p<9");
        z.thing(3, 0);
        Due.parents(z, 3, 9, 3, 9, 2, 0, 2, 0);
        mean(z, 63, 2);
        MoreStory none = new MoreStory();
        Due.parents(none, 0, 0, 0, 0, 0, 0);
        mean(none, 0, 1);
        Due.sentence("26: part likewise. NO");
        for (int part : new int[] {-1, 2, MIN, MAX}) Due.is("part " + part, x.mean(part), NO);
        Due.sentence("26: CLOCK behind 60 ASKS");
        for (int late = 59; late <= 61; late++) {
            MoreStory w = Due.with("late " + late + ";deep 99");
            w.thing(20, 0);
            Due.parents(w, 3, 0);
            mean(w, Math.min(60, late), 1);
        }
        Due.sentence("26: from how all is now");
        x.ask(1);
        mean(x, 4 + 3 * 61, 4);
        x.ask(0);
        mean(x, 4, 1);
        x.night();
        mean(x, 183, 4);
    }

    private static void book() {
        Due.sentence("27: A PARENT comes to the BOOK: how many there are (-1: it is empty then, 0). NONE; FULL: 12");
        MoreStory x = new MoreStory();
        Due.is("nobody is there", x.book(0), -1);
        Due.is("empty", x.book(-1), 0);
        Due.parents(x, 2, 0, 3, 9);
        for (int p : new int[] {-2, 2, 3, 4, MIN, MAX}) Due.is("parent " + p, x.book(p), -1);
        for (int i = 1; i <= 12; i++) {
            Due.is("book", x.book(i % 2), i);
            Due.is("how many", x.count(4), i);
        }
        for (int p = 0; p < 2; p++) Due.is("a thirteenth", x.book(p), -4);
        Due.is("how many", x.count(4), 12);
        Due.is("empty then", x.book(-1), 0);
        Due.is("how many", x.count(4), 0);
        Due.is("empty once more", x.book(-1), 0);
        Due.is("the first again", x.book(1), 1);
        Due.parents(x, 0, 0, 0, 0);
        Due.is("the last parent", x.book(3), 2);
        Due.is("none behind it", x.book(4), -1);
    }

    private static void looked(MoreStory x, String book, int due) {
        x.book(-1);
        for (char p : book.toCharArray()) x.book(p - '0');
        Due.is("looked at '" + book + "'", x.looked(), due);
    }

    /** 0: TIRED, who gives; 1: STRICT, who never does; 2: STRICT with 2. One thing of a minute. */
    private static MoreStory booked(String text) {
        MoreStory x = Due.with(text);
        Due.minutes(x, 1);
        Due.parents(x, 3, 9, 2, 0, 2, 2);
        return x;
    }

    private static void looked() {
        Due.sentence("28: the first who does not GIVE (-5: none)");
        MoreStory x = booked("late 99;deep 99;calm 0 p<9");
        looked(x, "", -5);
        looked(x, "0", -5);
        looked(x, "1", 0);
        looked(x, "000000000000", -5);
        Due.is("twelve", x.count(4), 12);
        for (int i = 0; i < 12; i++) looked(x, "0".repeat(i) + "1" + "0".repeat(11 - i), i);
        looked(x, "22", -5);
        looked(x, "222", 2);
        looked(x, "002", 2);
        looked(x, "020", -5);
        looked(x, "0111", 1);
        Due.sentence("28: or who is not ASKED, THE EVENING being over");
        for (int late = 0; late <= 12; late++) {
            MoreStory y = booked("late " + late + ";deep 99;calm 0 p<9");
            looked(y, "0".repeat(12), late < 12 ? late : -5);
            looked(y, "0".repeat(late), -5);
            MoreStory z = booked("late 99;deep " + late + ";calm 1 p<9");
            looked(z, "0".repeat(12), late < 12 ? late : -5);
            looked(z, "0".repeat(late), -5);
        }
        Due.sentence("28: from now on");
        x.ask(0);
        looked(x, "22", 1);
        looked(x, "2", -5);
        x.ask(0);
        looked(x, "2", 0);
        x.night();
        looked(x, "22", -5);
    }

    public static void main(String[] args) {
        hear();
        who();
        odds();
        mean();
        book();
        looked();
        Due.end();
    }
}
