import java.io.IOException;
import java.lang.reflect.Method;
import java.nio.file.Files;
import java.nio.file.Path;
import java.util.regex.Matcher;
import java.util.regex.Pattern;

/** The calls in README.md, one behind the other, answer what stands behind them there. */
public final class ReadmeTests {
    private static final Tally TALLY = new Tally("ReadmeTests");
    private static final Pattern CALL = Pattern.compile("x\\.(\\w+)\\(([-0-9, ]*)\\);\\s+// (-?\\d+):.*");
    private static final Pattern FED = Pattern.compile(
            "for \\(char c : \"([^\"]*)\"\\.toCharArray\\(\\)\\) x\\.feed\\(c\\);");
    private static final int CALLS_THERE = 35;

    private static final CreasedAgain X = new CreasedAgain();
    private static int calls;

    public static void main(String[] args) throws IOException, ReflectiveOperationException {
        TALLY.promise("README.md");
        boolean inCode = false;
        for (String line : Files.readAllLines(Path.of("README.md"))) {
            if (line.startsWith("```")) {
                inCode = line.equals("```java");
            } else if (inCode && line.contains("x.")) {
                call(line);
            }
        }
        TALLY.due("calls there", calls >= CALLS_THERE ? 1 : 0, 1);
        TALLY.end();
    }

    private static void call(String line) throws ReflectiveOperationException {
        Matcher fed = FED.matcher(line);
        Matcher call = CALL.matcher(line);
        if (fed.matches()) {
            for (char c : fed.group(1).toCharArray()) {
                X.feed(c);
            }
        } else if (call.matches()) {
            calls++;
            TALLY.due(line, answer(call.group(1), call.group(2)), Long.parseLong(call.group(3)));
        } else {
            TALLY.due("a call of which no answer is told: " + line, 1, 0);
        }
    }

    private static long answer(String name, String told) throws ReflectiveOperationException {
        String[] words = told.isEmpty() ? new String[0] : told.split(", ");
        Object[] arguments = new Object[words.length];
        Class<?>[] types = new Class<?>[words.length];
        for (int i = 0; i < words.length; i++) {
            arguments[i] = Integer.parseInt(words[i]);
            types[i] = int.class;
        }
        Method method = CreasedAgain.class.getMethod(name, types);
        return ((Number) method.invoke(X, arguments)).longValue();
    }
}
