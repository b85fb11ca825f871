import java.lang.reflect.Method;
import java.nio.file.Files;
import java.nio.file.Path;
import java.util.Set;
import java.util.TreeSet;
import java.util.regex.Matcher;
import java.util.regex.Pattern;

/** README.md: its example answers what stands behind each call, and it names every call of the face. */
public final class ReadmeTest {
    private static final Checks c = new Checks();
    private static final Pattern TYPED = Pattern.compile("for \\(char letter : \"([^\"]*)\"");
    private static final Pattern ASKED = Pattern.compile("^x\\.(\\w+)\\(([^)]*)\\);\\s*// (-?\\d+)\\b");

    public static void main(String[] args) throws Exception {
        String readme = Files.readString(Path.of("README.md"));
        int begin = readme.indexOf("```java\n");
        int end = readme.indexOf("\n```\n", Math.max(begin, 0));
        c.due("there is an example", begin >= 0 && end > begin ? 1 : 0, 1);
        if (begin >= 0 && end > begin) {
            example(readme.substring(begin, end).split("\n"));
        }
        for (String name : face()) {
            c.due("README names " + name, readme.contains("`" + name + "`") ? 1 : 0, 1);
        }
        c.end();
    }

    private static void example(String[] lines) throws Exception {
        QuartetNods x = new QuartetNods();
        for (String line : lines) {
            Matcher typed = TYPED.matcher(line);
            Matcher asked = ASKED.matcher(line);
            if (typed.find()) {
                Checks.type(x, typed.group(1));
            } else if (asked.find()) {
                c.due(line, call(x, asked.group(1), asked.group(2)), Long.parseLong(asked.group(3)));
            } else {
                c.due("a call without its answer: " + line, line.startsWith("x.") ? 1 : 0, 0);
            }
        }
    }

    private static long call(QuartetNods x, String name, String arguments) throws Exception {
        String[] written = arguments.isEmpty() ? new String[0] : arguments.split(", ");
        Object[] values = new Object[written.length];
        Class<?>[] types = new Class<?>[written.length];
        for (int i = 0; i < written.length; i++) {
            values[i] = Integer.parseInt(written[i]);
            types[i] = int.class;
        }
        Method method = QuartetNods.class.getMethod(name, types);
        return ((Number) method.invoke(x, values)).longValue();
    }

    private static Set<String> face() {
        Set<String> names = new TreeSet<>();
        for (Method m : QuartetNods.class.getMethods()) {
            if (m.getDeclaringClass() == QuartetNods.class) {
                names.add(m.getName());
            }
        }
        return names;
    }
}
