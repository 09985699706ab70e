import java.io.IOException;
import java.lang.reflect.InvocationTargetException;
import java.lang.reflect.Method;
import java.lang.reflect.Modifier;
import java.nio.file.Files;
import java.nio.file.Path;
import java.util.ArrayList;
import java.util.HashMap;
import java.util.HashSet;
import java.util.List;
import java.util.Map;
import java.util.Set;
import java.util.regex.Matcher;
import java.util.regex.Pattern;

/**
 * The calls that README.md shows, made in their order on one shop; each answer is held against the one that is told
 * behind the call. They are read from README.md itself, so that what stands there cannot differ from what is tested.
 */
public final class ReadmeTest {
    private static final String NEW_SHOP = "GlassLabels shop = new GlassLabels();";
    private static final Pattern CALL = Pattern.compile(
        "(?:(?<type>int|boolean) (?<name>\\w+) = )?shop\\.(?<call>\\w+)\\((?<arguments>[^)]*)\\);\\s+// (?<told>.+)");

    private final GlassLabels shop = new GlassLabels();
    private final Map<String, Integer> named = new HashMap<>();
    private final Set<String> called = new HashSet<>();

    public static void main(String[] args) throws IOException {
        List<String> example = example(Files.readAllLines(Path.of("README.md")));
        Check.due("the example's first line", example.isEmpty() ? "" : example.get(0), NEW_SHOP);
        ReadmeTest test = new ReadmeTest();
        for (int i = 1; i < example.size(); i++) {
            test.makeCall(example.get(i));
        }
        test.everyCallIsShown();
        Check.end();
    }

    /** The lines of the blocks in Java, but for those that are empty or a comment alone. */
    private static List<String> example(List<String> readme) {
        List<String> lines = new ArrayList<>();
        boolean inJava = false;
        for (String line : readme) {
            if (line.startsWith("```")) {
                inJava = line.equals("```java");
            } else if (inJava && !line.isBlank() && !line.startsWith("//")) {
                lines.add(line);
            }
        }
        return lines;
    }

    private void makeCall(String line) {
        Matcher parts = CALL.matcher(line);
        Method call = parts.matches() ? methodNamed(parts.group("call")) : null;
        if (call == null) {
            Check.fail("README.md shows no call with an answer told in: " + line);
            return;
        }
        called.add(call.getName());
        Object answer = answerOf(call, parts.group("arguments"));
        Check.due("README.md: " + line, String.valueOf(answer), told(parts.group("told")));
        if (parts.group("name") != null) {
            Check.due("README.md: the type in " + line, parts.group("type"), call.getReturnType().getName());
            named.put(parts.group("name"), answer instanceof Integer number ? number : GlassLabels.NONE);
        }
    }

    /** What is told ends before a colon, behind which stands why. */
    private static String told(String comment) {
        String told = comment.split(":")[0].strip();
        return told.equals("GlassLabels.NONE") ? String.valueOf(GlassLabels.NONE) : told;
    }

    private Object answerOf(Method call, String arguments) {
        try {
            return call.invoke(shop, values(arguments));
        } catch (InvocationTargetException e) {
            return "throws " + e.getCause().getClass().getSimpleName();
        } catch (IllegalAccessException | IllegalArgumentException e) {
            return "no call like this: " + e.getMessage();
        }
    }

    private Object[] values(String arguments) {
        List<Object> values = new ArrayList<>();
        for (String argument : arguments.isEmpty() ? new String[0] : arguments.split(", ")) {
            values.add(named.containsKey(argument) ? named.get(argument) : Integer.valueOf(argument));
        }
        return values.toArray();
    }

    private static Method methodNamed(String name) {
        for (Method call : GlassLabels.class.getDeclaredMethods()) {
            if (Modifier.isPublic(call.getModifiers()) && call.getName().equals(name)) {
                return call;
            }
        }
        return null;
    }

    private void everyCallIsShown() {
        for (Method call : GlassLabels.class.getDeclaredMethods()) {
            if (Modifier.isPublic(call.getModifiers())) {
                Check.due("README.md shows " + call.getName(), called.contains(call.getName()), true);
            }
        }
    }
}
