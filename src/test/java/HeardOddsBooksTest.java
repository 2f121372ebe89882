/** Promises 22 to 28. */
public final class HeardOddsBooksTest {
    private static final int MIN = Integer.MIN_VALUE, MAX = Integer.MAX_VALUE;
    private static final long NO = Long.MIN_VALUE;

    /** Gifts calm by 5, she sleeps from 10 on; a no costs 2. Things take 6 and 3 minutes. */
    private static MoreStory evening(int... kindsAndV) {
        MoreStory x = Due.with("deep 10;calm 5 t<9");
        Due.things(x, 6, 0, 3, 0);
        Due.parents(x, kindsAndV);
        return x;
    }

    private static void promise22And23() {
        MoreStory x = new MoreStory();
        Due.is("nothing was", x.hush(), 0);
        for (int i = 1; i <= 8; i++) Due.is("hear", x.hear(i % 2 == 0), i);
        Due.is("full", x.hear(true), -4);
        Due.is("full", x.hear(false), -4);
        Due.is("eight", x.count(3), 8);
        Due.is("were", x.hush(), 8);
        Due.is("none then", x.count(3), 0);
        Due.is("were", x.hush(), 0);
        Due.is("hear anew", x.hear(true), 1);
    }

    private static void who(MoreStory x, String heard, int due) {
        x.hush();
        for (int i = 0; i < heard.length(); i++) x.hear(heard.charAt(i) == '+');
        Due.is("who " + heard, x.who(), due);
    }

    private static void promise24() {
        MoreStory x = evening(0, 0, 3, 3, 2, 1, 1, 0);
        who(x, "", 15);
        who(x, "+", 13);
        who(x, "-", 2);
        who(x, "+-", 4);
        who(x, "-+", 2);
        who(x, "++", 9);
        who(x, "+++", 0);
        who(x, "-+-+-+", 2);
        who(x, "-+-+-++", 0);
        who(x, "+-------", 4);
        who(x, "+------+", 0);
        x.ask(0);
        who(x, "+", 11);
        who(x, "++", 0);
        x.ask(0);
        who(x, "", 15);
        who(x, "+", 0);
        who(x, "-", 0);
        Due.is("changes nothing", x.told(1), 9);
        MoreStory none = new MoreStory();
        Due.is("nobody", none.who(), 0);
        Due.parents(none, 0, 0);
        Due.is("nothing heard, no things", none.who(), 1);
        none.hear(false);
        Due.is("no asks", none.who(), 0);
    }

    private static void odds(MoreStory x, int parent, long above, long below) {
        Due.is("above", x.odds(parent, 0), above);
        Due.is("below", x.odds(parent, 1), below);
    }

    private static void promise25() {
        MoreStory x = Due.with("deep 5;calm 5 t=0;calm 5 t=3;calm 1 t=1");
        Due.things(x, 4, 0, 4, 0, 4, 0);
        Due.parents(x, 2, 1, 0, 0, 2, 0);
        odds(x, 0, 1, 3);
        odds(x, 1, 1, 1);
        odds(x, 2, 0, 1);
        x.thing(4, 0);
        odds(x, 0, 1, 2);
        Due.is("changes nothing", x.told(5), 0);
        x.ask(2);
        odds(x, 0, 1, 2);
        for (int part : new int[] {-1, 2, MIN, MAX}) Due.is("part " + part, x.odds(0, part), NO);
        for (int i : new int[] {-1, 3, MIN, MAX}) Due.is("nobody", x.odds(i, 0), NO);
        Due.things(x, 4, 0, 4, 0);
        odds(x, 0, 1, 3);
        MoreStory none = Due.with("deep 0");
        Due.parents(none, 0, 0);
        odds(none, 0, NO, NO);
        none.thing(1, 1);
        odds(none, 0, 1, 1);
    }

    private static void mean(MoreStory x, long above, long below) {
        Due.is("above", x.mean(0), above);
        Due.is("below", x.mean(1), below);
    }

    private static void promise26() {
        MoreStory x = evening();
        mean(x, NO, NO);
        Due.parents(x, 0, 0);
        mean(x, 9, 1);
        Due.parents(x, 3, 3);
        mean(x, 21, 2);
        Due.parents(x, 0, 5);
        mean(x, 10, 1);
        Due.parents(x, 2, 0);
        mean(x, 45, 2);
        for (int part : new int[] {-1, 2, MIN, MAX}) Due.is("part " + part, x.mean(part), NO);
        Due.is("changes nothing", x.told(1), 0);
        MoreStory none = new MoreStory();
        Due.parents(none, 0, 0, 0, 0);
        mean(none, 0, 1);
    }

    private static void promise27() {
        MoreStory x = evening(0, 0, 3, 3);
        for (int i : new int[] {-2, 2, 4, MIN, MAX}) Due.is("nobody", x.book(i), -1);
        Due.is("empty", x.book(-1), 0);
        for (int i = 1; i <= 12; i++) Due.is("book", x.book(i % 2), i);
        Due.is("full", x.book(0), -4);
        Due.is("nobody ahead of full", x.book(2), -1);
        Due.is("twelve", x.count(4), 12);
        Due.is("empty then", x.book(-1), 0);
        Due.is("none", x.count(4), 0);
        Due.is("anew", x.book(1), 1);
    }

    private static void looked(MoreStory x, int due, int... book) {
        x.book(-1);
        for (int i : book) x.book(i);
        Due.is("looked", x.looked(), due);
    }

    /** The place in the book, from 0 on. */
    private static void promise28() {
        MoreStory x = evening(0, 0, 3, 3, 2, 1);
        looked(x, -5);
        looked(x, -5, 0);
        looked(x, 0, 1);
        looked(x, -5, 2, 1);
        looked(x, 1, 2, 2);
        looked(x, 2, 0, 0, 0);
        looked(x, 2, 0, 1, 0, 2);
        looked(x, 1, 0, 2);
        Due.is("changes nothing", x.told(1), 0);
        x.ask(0);
        looked(x, -5, 1);
        looked(x, 1, 1, 1);
        looked(x, 0, 2);
        x.ask(0);
        looked(x, 0, 0);
        looked(x, -5);
        MoreStory none = new MoreStory();
        Due.parents(none, 0, 0);
        looked(none, 0, 0);
    }

    public static void main(String[] args) {
        promise22And23();
        promise24();
        promise25();
        promise26();
        promise27();
        promise28();
        Due.end();
    }
}
