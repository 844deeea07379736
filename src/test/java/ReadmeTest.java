import java.lang.reflect.Method;
import java.lang.reflect.Modifier;
import java.nio.file.Files;
import java.nio.file.Path;
import java.util.List;
import java.util.regex.Matcher;
import java.util.regex.Pattern;

/** README.md says what is so: its example answers as it tells, its texts are read, all methods are named. */
public final class ReadmeTest extends Bench {
    private static final Path README = Path.of("README.md");
    private static final Pattern CALL = Pattern.compile("path\\.(\\w+)\\((.*)\\); +// (-?\\d+).*");
    private static final int EXAMPLES = 12;

    private ReadmeTest() { }

    public static void main(String[] args) throws Exception {
        List<String> lines = Files.readAllLines(README);
        example(lines);
        texts(lines);
        names(String.join("\n", lines));
        end("what README.md says is so");
    }

    private static Object argument(String text) {
        return text.equals("true") || text.equals("false") ? (Object) Boolean.valueOf(text) : Integer.valueOf(text);
    }

    private static Object[] arguments(String text) {
        String[] parts = text.isEmpty() ? new String[0] : text.split(", ");
        Object[] all = new Object[parts.length];
        for (int i = 0; i < parts.length; i++) {
            all[i] = argument(parts[i]);
        }
        return all;
    }

    private static void example(List<String> lines) {
        begin("the example of README.md");
        int found = 0;
        for (String line : lines) {
            Matcher call = CALL.matcher(line);
            if (call.matches()) {
                due(call.group(3), call.group(1), arguments(call.group(2)));
                found++;
            }
        }
        if (found != EXAMPLES) {
            fail("the calls of the example", found, EXAMPLES);
        }
    }

    /** The first piece of a line that stands between backticks and begins with a word. */
    private static String quoted(List<String> lines, String word) {
        for (String line : lines) {
            int from = line.indexOf('`' + word);
            if (from >= 0) {
                return line.substring(from + 1, line.indexOf('`', from + 1));
            }
        }
        fail("a text of README.md", "none", word);
        return "";
    }

    private static void texts(List<String> lines) {
        begin("the texts of README.md");
        read(quoted(lines, "link "));
        row("size", 2, 1, 0, 40, 2, 1500);
        run(7, quoted(lines, "send "));
        due(296, "narrowest");
        due(5, "size", 2);
    }

    private static void names(String all) {
        begin("the methods in README.md");
        for (Method method : FragmentPath.class.getDeclaredMethods()) {
            if (Modifier.isPublic(method.getModifiers()) && !all.contains('`' + method.getName() + '`')) {
                fail(method.getName(), "not named", "named");
            }
        }
    }
}
