import java.lang.reflect.Field;
import java.lang.reflect.Method;
import java.lang.reflect.Modifier;
import java.nio.charset.StandardCharsets;
import java.nio.file.Files;
import java.nio.file.Path;
import java.util.Set;
import java.util.TreeSet;
import java.util.regex.Matcher;
import java.util.regex.Pattern;

/** What of ../shared/LANGUAGE.md can be seen from outside, and how little room a run takes. */
public final class LanguageTest {
    private static final String FACE = "act ask at book both count coupons evenings feed habit hear house hush image item judge"
        + " limit looked mean night odds of on order parent read row shift taken tape thing told trace undo who will with without";
    private static final String[] FORBIDDEN = {"throw", "throws", "try", "catch", "finally", "synchronized", "assert", "import",
        "package", "var", "equals", "hashCode", "toString", "sealed", "yield"};

    private static void face() {
        Set<String> open = new TreeSet<>(), hidden = new TreeSet<>();
        for (Method m : MoreStory.class.getDeclaredMethods()) {
            if (m.isSynthetic()) continue;
            if (Modifier.isPublic(m.getModifiers())) open.add(m.getName());
            else hidden.add(m.getName());
            Due.is(m.getName() + " is private or of the face", m.getModifiers() & (Modifier.PUBLIC | Modifier.PRIVATE),
                open.contains(m.getName()) ? Modifier.PUBLIC : Modifier.PRIVATE);
            Due.is(m.getName() + " has too many parameters", m.getParameterCount() > 7 ? 1 : 0, 0);
        }
        Due.is("the face is " + open, String.join(" ", open).equals(FACE) ? 1 : 0, 1);
        hidden.retainAll(open);
        Due.is("names of the face: " + hidden, hidden.size(), 0);
        Set<String> constants = new TreeSet<>();
        for (Field f : MoreStory.class.getDeclaredFields()) {
            if (Modifier.isPublic(f.getModifiers())) constants.add(f.getName());
            else Due.is(f.getName() + " is private", Modifier.isPrivate(f.getModifiers()) ? 1 : 0, 1);
            if (Modifier.isStatic(f.getModifiers())) Due.is(f.getName(), Modifier.isFinal(f.getModifiers()) ? 1 : 0, 1);
        }
        Due.is("constants " + constants, String.join(" ", constants).equals("BAD FULL NO NONE STATE") ? 1 : 0, 1);
    }

    private static void classes() {
        Class<?>[] inside = MoreStory.class.getDeclaredClasses();
        Due.is("classes: " + (inside.length + 1), inside.length < 12 ? 1 : 0, 1);
        for (Class<?> c : inside) {
            Due.is(c + " is static", Modifier.isStatic(c.getModifiers()) ? 1 : 0, 1);
            Due.is(c + " is public", Modifier.isPublic(c.getModifiers()) ? 1 : 0, 0);
            int fields = 0;
            for (Field f : c.getDeclaredFields()) fields += Modifier.isStatic(f.getModifiers()) ? 0 : 1;
            Due.is(c + " has fields: " + fields, fields <= 20 ? 1 : 0, 1);
            for (Method m : c.getDeclaredMethods()) Due.is(m + " is of the face", (" " + FACE + " ").contains(" " + m.getName() + " ") ? 1 : 0, 0);
        }
    }

    private static void words(String source) {
        for (char c : source.toCharArray()) Due.is("sign " + (int) c, c == '\n' || c >= 32 && c < 127 ? 1 : 0, 1);
        String bare = source.replaceAll("(?s)/\\*.*?\\*/", " ").replaceAll("//[^\n]*", " ").replaceAll("\"[^\"\n]*\"", "\"\"");
        for (String word : FORBIDDEN) Due.is(word, Pattern.compile("\\b" + word + "\\b").matcher(bare).find() ? 1 : 0, 0);
        for (String sign : new String[] {"->", "::", "@", "\" +", "+ \""}) Due.is(sign, bare.contains(sign) ? 1 : 0, 0);
        Matcher library = Pattern.compile("\\b(?:System|Math|Integer|Long|Arrays|List)\\.(\\w+)").matcher(bare);
        while (library.find()) Due.is(library.group(), Set.of("arraycopy", "min", "max", "MIN_VALUE").contains(library.group(1)) ? 1 : 0, 1);
    }

    /** The dearest calls, 512 of each: what is asked runs ahead on rows that are there. */
    private static void room() {
        MoreStory x = Due.with("late 99;deep 99;calm 1 !(p=1|k=2)&t<9|c>3;fuss 1 n>0");
        Due.things(x, 1, 0, 2, 0, 3, 0, 4, 0, 5, 0);
        Due.parents(x, 1, 1, 4, 2, 0, 0, 6, 9);
        calls(x);
        com.sun.management.ThreadMXBean bean =
            (com.sun.management.ThreadMXBean) java.lang.management.ManagementFactory.getThreadMXBean();
        long id = Thread.currentThread().getId(), ahead = bean.getThreadAllocatedBytes(id);
        for (int i = 0; i < 512; i++) calls(x);
        long bytes = bean.getThreadAllocatedBytes(id) - ahead;
        Due.is("bytes for 512 of each: " + bytes, bytes < 100_000 ? 1 : 0, 1);
    }

    private static void calls(MoreStory x) {
        x.on(0, 60, 0);
        x.with(0);
        x.both(0, 1);
        x.limit(0, 0);
        x.without(0);
        x.order(0, 0);
        x.coupons(0);
        x.evenings(0, 10, 0);
        x.who();
        x.odds(0, 0);
        x.mean(0);
        x.looked();
        x.image();
        x.undo();
        x.act(3, 2, 5);
        x.tape(0, 3, 60);
        x.shift(0, 0, 0, 1, 9);
        x.judge(0, 0);
        x.feed(65);
        x.house();
    }

    public static void main(String[] args) throws Exception {
        face();
        classes();
        words(Files.readString(Path.of(args[0]), StandardCharsets.ISO_8859_1));
        room();
        Due.end();
    }
}
