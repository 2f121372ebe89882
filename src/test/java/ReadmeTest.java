import java.lang.reflect.Method;
import java.nio.charset.StandardCharsets;
import java.nio.file.Files;
import java.nio.file.Path;
import java.util.regex.Matcher;
import java.util.regex.Pattern;

/** The example of README.md answers what is written behind its calls. */
public final class ReadmeTest {
    private static final Pattern CALL = Pattern.compile("x\\.(\\w+)\\(([-0-9, ]*)\\);\\s*// (-?\\d+).*");
    private static final Pattern TEXT = Pattern.compile("for \\(char c : \"([^\"]*)\"\\.toCharArray\\(\\)\\) x\\.feed\\(c\\);");
    private static final String BEGIN = "MoreStory x = new MoreStory();";

    private static int[] numbers(String row) {
        if (row.isBlank()) return new int[0];
        String[] parts = row.split(", ");
        int[] n = new int[parts.length];
        for (int i = 0; i < n.length; i++) n[i] = Integer.parseInt(parts[i]);
        return n;
    }

    private static long answer(MoreStory x, String name, int[] n) throws ReflectiveOperationException {
        for (Method m : MoreStory.class.getMethods()) {
            if (!m.getName().equals(name) || m.getParameterCount() != n.length) continue;
            Object[] given = new Object[n.length];
            for (int i = 0; i < n.length; i++) given[i] = n[i];
            return ((Number) m.invoke(x, given)).longValue();
        }
        throw new NoSuchMethodException(name);
    }

    public static void main(String[] args) throws Exception {
        Path readme = Path.of(args[0]).resolve("../../../../README.md").normalize();
        String all = Files.readString(readme, StandardCharsets.UTF_8);
        int from = all.indexOf("```java\n") + 8;
        String[] lines = all.substring(from, all.indexOf("```", from)).split("\n");
        Due.is("the example begins with " + BEGIN, lines[0].equals(BEGIN) ? 1 : 0, 1);
        MoreStory x = new MoreStory();
        for (int i = 1; i < lines.length; i++) {
            Matcher call = CALL.matcher(lines[i]), text = TEXT.matcher(lines[i]);
            if (text.matches()) Due.text(x, text.group(1));
            else if (call.matches()) Due.is(lines[i], answer(x, call.group(1), numbers(call.group(2))), Long.parseLong(call.group(3)));
            else Due.is("a line that is a call and its answer: " + lines[i], 0, 1);
        }
        Due.end();
    }
}
