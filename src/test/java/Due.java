/** What all tests use: one line for each answer that is not the one that is due. */
final class Due {
    private static int wrong = 0, looked = 0;
    private static String sentence = "";

    private Due() { }

    /** The document's words that the answers behind it are about. */
    static void sentence(String words) {
        sentence = words + " - ";
    }

    static void is(String call, long got, long want) {
        looked++;
        if (got == want) return;
        wrong++;
        if (wrong <= 40) System.out.println(sentence + call + " answered " + got + ", due is " + want);
    }

    static void end() {
        System.out.println(looked + " answers looked at, " + wrong + " not as due");
        if (wrong != 0) System.exit(1);
    }

    /** Feeds a text, no more. */
    static void text(MoreStory x, String text) {
        for (int i = 0; i < text.length(); i++) x.feed(text.charAt(i));
    }

    /** Feeds a text and makes a house of it. */
    static int house(MoreStory x, String text) {
        text(x, text);
        return x.house();
    }

    /** Things as minutes and sweetness, by turns. */
    static void things(MoreStory x, int... minutesAndSweet) {
        for (int i = 0; i + 1 < minutesAndSweet.length; i += 2) x.thing(minutesAndSweet[i], minutesAndSweet[i + 1]);
    }

    /** Things that are not sweet, as their minutes. */
    static void minutes(MoreStory x, int... minutes) {
        for (int m : minutes) x.thing(m, 0);
    }

    /** Parents as kinds and v, by turns. */
    static void parents(MoreStory x, int... kindsAndV) {
        for (int i = 0; i + 1 < kindsAndV.length; i += 2) x.parent(kindsAndV[i], kindsAndV[i + 1]);
    }

    /** A new object with a house (none for ""), no more. */
    static MoreStory with(String text) {
        MoreStory x = new MoreStory();
        if (!text.isEmpty()) is("house " + text, house(x, text), 0);
        return x;
    }

    /** One thing of so many minutes; TIRED with 9, who gives it, and STRICT with 0, who never does. */
    static MoreStory one(String text, int minutes) {
        MoreStory x = with(text);
        minutes(x, minutes);
        parents(x, 3, 9, 2, 0);
        return x;
    }

    static void asks(MoreStory x, int parent, int n) {
        for (int i = 0; i < n; i++) x.ask(parent);
    }
}
