import java.io.IOException;
import java.lang.reflect.InvocationTargetException;
import java.lang.reflect.Method;
import java.lang.reflect.Modifier;
import java.nio.charset.StandardCharsets;
import java.nio.file.Files;
import java.nio.file.Path;
import java.util.HashMap;
import java.util.Map;
import java.util.Set;
import java.util.TreeSet;
import java.util.regex.Matcher;
import java.util.regex.Pattern;

/** Calls what README.md shows under "Use", looks for each answer that it tells, and tells each text that it shows. */
public final class ReadmeTest {
    private static final Pattern CALL =
        Pattern.compile("(?:int (\\w+) = )?laundry\\.(\\w+)\\(([^)]*)\\);\\s+// (-?\\d+|true|false)\\b.*");
    private static final Pattern TEXT = Pattern.compile("- (\\d), [^`]*`([^`]*;)`");
    private static final String FIRST = "KnotLaundry laundry = new KnotLaundry();";

    private static final Map<String, Integer> NAMED = new HashMap<>();
    private static final KnotLaundry LAUNDRY = new KnotLaundry();
    private static int wrong = 0;
    private static int asked = 0;

    public static void main(String[] args) throws IOException {
        String readme = Files.readString(Path.of("README.md"), StandardCharsets.UTF_8);
        String use = between(readme, "\n## Use\n", "\n## ");
        String tests = between(readme + "\n## ", "\n## Tests\n", "\n## ");
        for (String line : between(use, "```java\n", "```").split("\n")) {
            if (!line.isBlank() && !line.equals(FIRST)) call(line);
        }
        int texts = 0;
        for (Matcher m = TEXT.matcher(use); m.find(); texts++) text(Integer.parseInt(m.group(1)), m.group(2));
        if (texts != 4) fail("shows " + texts + " texts");
        for (String name : methods()) {
            if (!use.contains("laundry." + name + "(") && !use.contains("`" + name + "`")) fail("tells nothing of " + name);
        }
        if (asked == 0) fail("shows no call");
        if (!tests.contains(".ci/run")) fail("does not say how to run the tests");
        System.out.println("ReadmeTest: " + asked + " calls, " + wrong + " wrong");
        System.exit(wrong == 0 ? 0 : 1);
    }

    private static void call(String line) {
        Matcher m = CALL.matcher(line);
        if (!m.matches()) {
            fail("shows no call and its answer: " + line);
            return;
        }
        asked++;
        Object answer = answer(m.group(2), m.group(3).split(", *"));
        if (!String.valueOf(answer).equals(m.group(4))) fail("is wrong, answered was " + answer + ": " + line);
        if (m.group(1) != null && answer instanceof Integer number) NAMED.put(m.group(1), number);
    }

    private static Object answer(String name, String[] told) {
        for (Method method : KnotLaundry.class.getMethods()) {
            if (!method.getName().equals(name)) continue;
            Class<?>[] kinds = method.getParameterTypes();
            Object[] values = new Object[kinds.length];
            for (int i = 0; i < values.length && i < told.length; i++) {
                values[i] = kinds[i] == boolean.class ? (Object) Boolean.valueOf(told[i]) : (Object) worth(told[i]);
            }
            try {
                return method.invoke(LAUNDRY, values);
            } catch (IllegalAccessException | InvocationTargetException | IllegalArgumentException e) {
                return e;
            }
        }
        return "no method " + name;
    }

    private static Integer worth(String told) {
        return NAMED.containsKey(told) ? NAMED.get(told) : Integer.decode(told);
    }

    /** Each of its lines ends with a semicolon. */
    private static void text(int k, String words) {
        asked++;
        Edge.feed(LAUNDRY, words);
        int lines = LAUNDRY.text(k);
        if (lines != words.length() - words.replace(";", "").length()) fail("shows a text with a fault: " + words);
    }

    private static Set<String> methods() {
        Set<String> names = new TreeSet<>();
        for (Method method : KnotLaundry.class.getDeclaredMethods()) {
            if (Modifier.isPublic(method.getModifiers())) names.add(method.getName());
        }
        return names;
    }

    private static String between(String text, String first, String last) {
        int begin = text.indexOf(first);
        int end = begin < 0 ? -1 : text.indexOf(last, begin + first.length());
        if (end < 0) {
            fail("has nothing from " + first.trim() + " to " + last.trim());
            return "";
        }
        return text.substring(begin + first.length(), end);
    }

    private static void fail(String what) {
        wrong++;
        System.out.println("README.md " + what);
    }
}
