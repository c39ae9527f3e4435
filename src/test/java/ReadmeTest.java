import java.io.File;
import java.lang.reflect.Method;
import java.lang.reflect.Modifier;
import java.nio.file.Files;
import java.nio.file.Path;
import java.util.Arrays;
import java.util.HashMap;
import java.util.Map;
import java.util.Set;
import java.util.TreeSet;
import java.util.regex.Matcher;
import java.util.regex.Pattern;

/** The examples of README.md, line by line: each call answers what the page says behind it. */
public final class ReadmeTest {
    private static final Pattern MADE = Pattern.compile("TideIsland island = new TideIsland\\(\\);");
    private static final Pattern CALL =
        Pattern.compile("(?:int (\\w+) = )?island\\.(\\w+)\\(([^)]*)\\); +// (-?\\d+|[A-Z]+)(?::.*)?");
    private static final Set<String> CALLED = new TreeSet<>();

    public static void main(String[] args) throws Exception {
        String page = Files.readString(Path.of("README.md"));
        int examples = 0;
        for (String part : page.split("```java\n", -1)) {
            if (examples > 0) {
                example(part.substring(0, part.indexOf("```")));
            }
            examples++;
        }
        everyCallHasAnExample();
        constants(page);
        theTestsAreNamed(page);
        Due.end();
    }

    private static void example(String lines) throws Exception {
        TideIsland island = null;
        Map<String, Integer> names = new HashMap<>();
        for (String line : lines.split("\n")) {
            Matcher call = CALL.matcher(line);
            if (MADE.matcher(line).matches()) {
                island = new TideIsland();
            } else if (island == null || !call.matches()) {
                Due.fail("no example: " + line);
            } else {
                int answer = answerOf(island, call.group(2), call.group(3), names);
                Due.due(line.substring(0, line.indexOf(" //")).trim(), answer, numberOf(call.group(4), names));
                names.put(String.valueOf(call.group(1)), answer);
                CALLED.add(call.group(2));
            }
        }
    }

    private static int answerOf(TideIsland island, String name, String inside, Map<String, Integer> names) throws Exception {
        String[] words = inside.isEmpty() ? new String[0] : inside.split(", ");
        Class<?>[] types = new Class<?>[words.length];
        Arrays.fill(types, int.class);
        Object[] numbers = new Object[words.length];
        for (int i = 0; i < words.length; i++) {
            numbers[i] = numberOf(words[i], names);
        }
        return (Integer) TideIsland.class.getMethod(name, types).invoke(island, numbers);
    }

    /** A number, one of the class's constants, or what a call that was given a name has answered. */
    private static int numberOf(String word, Map<String, Integer> names) throws Exception {
        if (names.containsKey(word)) {
            return names.get(word);
        }
        String constant = word.replace("TideIsland.", "");
        return constant.matches("[A-Z]+") ? TideIsland.class.getField(constant).getInt(null) : Integer.decode(word);
    }

    private static void everyCallHasAnExample() {
        for (Method method : TideIsland.class.getDeclaredMethods()) {
            if (Modifier.isPublic(method.getModifiers())) {
                Due.due("an example of " + method.getName(), CALLED.contains(method.getName()) ? 1 : 0, 1);
            }
        }
    }

    private static void constants(String page) throws Exception {
        for (String name : "BAD NO FULL NOTHING KIND INDEX SIZE NONE".split(" ")) {
            Matcher row = Pattern.compile("`" + name + "`[ |(]*(-\\d+)").matcher(page);
            Due.due(name + " on the page", row.find() ? Integer.parseInt(row.group(1)) : 0, TideIsland.class.getField(name).getInt(null));
        }
    }

    private static void theTestsAreNamed(String page) {
        for (String file : new File("src/test/java").list()) {
            String test = file.replace(".java", "");
            if (test.endsWith("Test") && !test.startsWith("Terms") && !test.startsWith("Promises")) {
                Due.due(test + " on the page", page.contains("`" + test + "`") ? 1 : 0, 1);
            }
        }
        Due.due("how the tests are run", page.contains("    .ci/run\n") && Files.exists(Path.of(".ci/run")) ? 1 : 0, 1);
    }
}
