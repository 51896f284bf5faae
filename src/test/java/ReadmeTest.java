import java.io.IOException;
import java.lang.reflect.Method;
import java.nio.file.Files;
import java.nio.file.Path;
import java.util.HashSet;
import java.util.Set;
import java.util.regex.Matcher;
import java.util.regex.Pattern;

/** The calls of the example in README.md, each with the answer that stands behind it there. */
public final class ReadmeTest extends TestKit {
    private static final Pattern CALL =
            Pattern.compile("x\\.(\\w+)\\(([^)]*)\\);\\s*// (true|false|-?\\d+)(?![\\w]).*");

    public static void main(String[] args) throws IOException, ReflectiveOperationException {
        String text = Files.readString(Path.of("README.md"));
        int from = text.indexOf("```java\n");
        int to = text.indexOf("```", from + 3);
        due("README.md has an example", from >= 0 && to > from, true);
        SevenUnsaid x = new SevenUnsaid();
        Set<String> made = new HashSet<>();
        for (String line : text.substring(from, to).split("\n")) {
            Matcher call = CALL.matcher(line);
            if (call.matches()) {
                due(line, answer(x, call.group(1), call.group(2)), call.group(3));
                made.add(call.group(1));
            } else {
                due("an answer stands behind '" + line + "'", line.startsWith("x."), false);
            }
        }
        for (Method m : SevenUnsaid.class.getDeclaredMethods()) {
            boolean named = made.contains(m.getName()) || text.contains("`" + m.getName() + "`");
            due("README.md names " + m.getName(), named || (m.getModifiers() & 1) == 0, true);
        }
        finish(made.size() + " kinds of calls answer as README.md says");
    }

    private static String answer(SevenUnsaid x, String name, String list) throws ReflectiveOperationException {
        String[] given = list.isBlank() ? new String[0] : list.split(",");
        for (Method m : SevenUnsaid.class.getMethods()) {
            if (m.getName().equals(name) && m.getParameterCount() == given.length) {
                Object[] values = new Object[given.length];
                for (int k = 0; k < given.length; k++) {
                    String value = given[k].trim();
                    values[k] = m.getParameterTypes()[k] == boolean.class
                            ? (Object) Boolean.valueOf(value) : Integer.decode(value);
                }
                return String.valueOf(m.invoke(x, values));
            }
        }
        return "no such call";
    }
}
