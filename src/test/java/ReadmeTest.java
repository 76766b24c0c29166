import java.io.IOException;
import java.lang.reflect.InvocationTargetException;
import java.lang.reflect.Method;
import java.nio.file.Files;
import java.nio.file.Path;
import java.util.Arrays;
import java.util.Set;
import java.util.TreeSet;
import java.util.regex.Matcher;
import java.util.regex.Pattern;

/** README.md's calls answer what README.md says, and none of the face is missing there. */
public final class ReadmeTest {
    private static final Due DUE = new Due();
    private static final Pattern TELL = Pattern.compile("tell\\(x, \"([^\"]*)\"\\); *// (\\d)\\b.*");
    private static final Pattern CALL = Pattern.compile("x\\.(\\w+)\\(([-\\d, ]*)\\); *// (.*)");
    private static final Pattern ANSWER = Pattern.compile("(-?\\d+|true|false|throws \\w+)\\b.*");

    public static void main(String[] args) throws IOException {
        String readme = Files.readString(Path.of("README.md"));
        Set<String> shown = new TreeSet<>();
        CobblePorts x = new CobblePorts();
        for (String line : readme.lines().toList()) {
            Matcher tell = TELL.matcher(line);
            Matcher call = CALL.matcher(line);
            if (tell.matches()) {
                DUE.is(line, Due.tell(x, tell.group(1)), Long.parseLong(tell.group(2)));
            } else if (call.matches()) {
                shown.add(call.group(1));
                DUE.is(line, outcome(x, call.group(1), call.group(2)), answer(call.group(3)));
            } else {
                DUE.is("a call without an answer: " + line, line.startsWith("x.") || line.startsWith("tell(") ? 1 : 0, 0);
            }
        }
        for (Method m : CobblePorts.class.getDeclaredMethods()) {
            if (java.lang.reflect.Modifier.isPublic(m.getModifiers())) {
                DUE.is(m.getName() + " is told", readme.contains("`" + m.getName() + "(") ? 1 : 0, 1);
            }
        }
        DUE.is("calls that are shown", shown.size() > 15 ? 1 : 0, 1);
        DUE.end();
    }

    /* A call that answers nothing is told in words alone. */
    private static String answer(String words) {
        Matcher told = ANSWER.matcher(words);
        return told.matches() ? told.group(1) : "null";
    }

    private static String outcome(CobblePorts x, String name, String numbers) {
        Object[] args = numbers.isEmpty() ? new Object[0] : Arrays.stream(numbers.split(", ")).map(Integer::valueOf).toArray();
        Class<?>[] types = new Class<?>[args.length];
        Arrays.fill(types, int.class);
        try {
            return String.valueOf(CobblePorts.class.getMethod(name, types).invoke(x, args));
        } catch (InvocationTargetException e) {
            return "throws " + e.getCause().getClass().getSimpleName();
        } catch (ReflectiveOperationException e) {
            return "no such call";
        }
    }
}
