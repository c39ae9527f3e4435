import java.lang.reflect.Field;
import java.lang.reflect.Modifier;
import java.nio.file.Files;
import java.nio.file.Path;
import java.util.List;
import java.util.regex.Matcher;
import java.util.regex.Pattern;

/** Rules of LANGUAGE.md that can be seen from the text of the class: 1, 2, 4, 5, 6, 11. */
public final class LanguageTest {
    public static void main(String[] args) throws Exception {
        List<String> lines = Files.readAllLines(Path.of("src/main/java/TideIsland.java"));
        String code = String.join("\n", lines).replaceAll("(?s)/\\*.*?\\*/", "").replaceAll("//[^\n]*", "")
            .replaceAll("\"[^\"\n]*\"", "\"\"").replaceAll("'[^'\n]+'", "0");
        for (String word : List.of("throw", "throws", "try", "catch", "finally", "synchronized", "assert", "protected", "package",
            "hashCode", "while (true)", "for (;;)")) {
            none(code, "\\b" + Pattern.quote(word) + "(?!\\w)", word);
        }
        none(code, "(?m)^(?!\\s*(case|default)\\b).*->|::", "a lambda or a reference to a method");
        none(code, "\\bstatic\\s*\\{", "a static block");
        none(code, "\\bimport (?!java\\.util\\.(Arrays|ArrayList|List|Iterator);)", "an import of something else");
        none(code, "\\bnew \\w+\\([^)]*\\)\\s*\\{", "a class without a name");
        none(code, "\"\"\\s*\\+|\\+\\s*\"\"", "texts joined by +");
        none(code, "\\bSystem\\.(?!arraycopy\\b)", "another call of System");
        none(code, "\\bArrays\\.(?!(copyOf|copyOfRange|fill)\\b)", "another call of Arrays");
        none(code, "\\b(Math|Integer|Long)\\.\\w+Exact\\b", "a function that throws");
        none(code, "(?m)^\\s*(private )?static (?!final )[\\w\\[\\]]+ \\w+( =|;)", "static state");
        none(code, "\\((?:[^(),]*,){7}[^()]*\\)\\s*\\{", "eight parameters");
        classes();
        shortMethods(lines);
        Due.end();
    }

    private static void classes() {
        Class<?>[] inside = TideIsland.class.getDeclaredClasses();
        Due.due("classes", inside.length + 1 > 12 ? inside.length + 1 : 0, 0);
        fields(TideIsland.class);
        for (Class<?> one : inside) {
            fields(one);
        }
    }

    private static void fields(Class<?> one) {
        int many = 0;
        for (Field field : one.getDeclaredFields()) {
            many += Modifier.isStatic(field.getModifiers()) ? 0 : 1;
        }
        Due.due("fields of " + one.getName(), many > 20 ? many : 0, 0);
    }

    private static void none(String code, String pattern, String what) {
        Matcher m = Pattern.compile(pattern).matcher(code);
        boolean found = m.find();
        int from = found ? code.lastIndexOf('\n', m.start()) + 1 : 0;
        int to = found ? code.indexOf('\n', m.start()) : 0;
        Due.due(what + ": " + code.substring(from, Math.max(from, to)).trim(), found ? 1 : 0, 0);
    }

    private static void shortMethods(List<String> lines) {
        int start = 0;
        for (int i = 0; i < lines.size(); i++) {
            String line = lines.get(i);
            if (line.matches("\\s{4,8}\\S.*\\) \\{") && !line.matches("\\s*(if|for|while|switch|\\}).*")) {
                start = i;
            }
            if (line.matches("\\s{4}(\\s{4})?\\}")) {
                Due.due("lines of " + lines.get(start).trim(), i - start > 60 && start > 0 ? i - start : 0, 0);
                start = 0;
            }
        }
    }
}
