import java.nio.file.Files;
import java.nio.file.Path;
import java.util.List;
import java.util.regex.Matcher;
import java.util.regex.Pattern;

/** Rules of LANGUAGE.md that can be seen from the text of the class: 1, 2, 4, 5, 6, 11. */
public final class LanguageTest {
    public static void main(String[] args) throws Exception {
        List<String> lines = Files.readAllLines(Path.of("src/main/java/TideIsland.java"));
        String code = String.join("\n", lines).replaceAll("(?s)/\\*.*?\\*/", "").replaceAll("//[^\n]*", "")
            .replaceAll("\"[^\"\n]*\"", "\"\"").replaceAll("'[^'\n]+'", "0");
        for (String word : List.of("throw", "throws", "try", "catch", "finally", "synchronized", "assert", "native", "transient",
            "volatile", "protected", "package", "equals", "hashCode", "toString", "float", "double", "while (true)")) {
            none(code, "\\b" + Pattern.quote(word) + "(?!\\w)", word);
        }
        none(code, "->|::", "a lambda or a reference to a method");
        none(code, "\\bstatic\\s*\\{", "a static block");
        none(code, "\\bimport (?!java\\.util\\.Arrays;)", "an import of something else");
        none(code, "\\bclass (?!TideIsland\\b)(?<!static final class )", "a class that is not static and final");
        none(code, "\\bnew \\w+\\([^)]*\\)\\s*\\{", "a class without a name");
        none(code, "\"\"\\s*\\+|\\+\\s*\"\"", "texts joined by +");
        none(code, "\\b(System|Arrays|Math|Integer)\\.(?!arraycopy|fill|max|min|bitCount)", "another call of the library");
        none(code, "(?m)^\\s*static (?!final|boolean|int)", "static state");
        none(code, "\\((?:[^(),]*,){7}[^()]*\\)\\s*\\{", "eight parameters");
        shortMethods(lines);
        Due.end();
    }

    private static void none(String code, String pattern, String what) {
        Matcher m = Pattern.compile(pattern).matcher(code);
        boolean found = m.find();
        int from = found ? code.lastIndexOf('\n', m.start()) + 1 : 0;
        int to = found ? code.indexOf('\n', m.start()) : 0;
        Due.due(what + ": " + code.substring(from, Math.max(from, to)).trim(), found ? 1 : 0, 0);
    }

    private static void shortMethods(List<String> lines) {
        int start = 0;
        for (int i = 0; i < lines.size(); i++) {
            String line = lines.get(i);
            if (line.matches("\\s{4,8}\\S.*\\) \\{") && !line.matches("\\s*(if|for|while|switch|\\}).*")) {
                start = i;
            }
            if (line.matches("\\s{4}(\\s{4})?\\}")) {
                Due.due("lines of " + lines.get(start).trim(), i - start > 60 && start > 0 ? i - start : 0, 0);
                start = 0;
            }
        }
    }
}
