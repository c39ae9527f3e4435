import java.io.IOException;
import java.nio.file.Files;
import java.nio.file.Path;
import java.util.LinkedHashMap;
import java.util.Map;

/**
 * The document's text by its sections ("What it is", "Terms" for the opening of the terms, "Terms 1" to "Terms 5",
 * "Promise 1" to "Promise 41"): a test quotes the sentence that it is about, and at its end no word of its sections
 * may be left that it has not quoted.
 */
final class Doc {
    private static final Map<String, String> SECTIONS = sections();
    private static final Map<String, boolean[]> QUOTED = new LinkedHashMap<>();

    private Doc() {
    }

    /** The test that begins here is about words that stand in a section. */
    static void says(String section, String words) {
        Due.about(section + ": " + words);
        String text = SECTIONS.getOrDefault(section, "");
        int at = text.indexOf(words);
        if (at < 0) {
            Due.fail("the document does not say that");
        }
        boolean[] quoted = QUOTED.computeIfAbsent(section, s -> new boolean[text.length()]);
        for (int i = at; at >= 0 && i < at + words.length(); i++) {
            quoted[i] = true;
        }
    }

    /** All words of these sections have been quoted. */
    static void allSaid(String... sections) {
        Due.about("");
        for (String section : sections) {
            String text = SECTIONS.getOrDefault(section, "");
            boolean[] quoted = QUOTED.getOrDefault(section, new boolean[text.length()]);
            StringBuilder left = new StringBuilder();
            for (int i = 0; i < text.length(); i++) {
                left.append(quoted[i] ? ' ' : text.charAt(i));
            }
            String words = left.toString().replaceAll(" +", " ").trim();
            if (text.isEmpty() || !words.isEmpty()) {
                Due.fail(section + ": no test is about: " + words);
            }
        }
    }

    private static Map<String, String> sections() {
        Map<String, String> found = new LinkedHashMap<>();
        String doc = read();
        found.put("What it is", plain(between(doc, "## What it is", "## The public face")));
        String terms = between(doc, "## Terms", "Ahead of the calls");
        found.put("Terms", plain(between(terms, "", "======== 1 ")));
        for (int i = 1; i <= 5; i++) {
            found.put("Terms " + i, plain(between(terms, "======== " + i + " ", i < 5 ? "======== " + (i + 1) : "")));
        }
        for (int i = 1; i <= 41; i++) {
            String text = between(doc, "## Promise " + i + ": ", i < 41 ? "## Promise " + (i + 1) + ": " : "## Not promised");
            found.put("Promise " + i, plain(between(text, "`: ", "")));
        }
        return found;
    }

    private static String read() {
        try {
            return Files.readString(Path.of("../shared/DOC.md"));
        } catch (IOException e) {
            return "";
        }
    }

    private static String between(String text, String from, String to) {
        int start = text.indexOf(from);
        if (start < 0) {
            return "";
        }
        start += from.length();
        int end = to.isEmpty() ? text.length() : text.indexOf(to, start);
        return end < 0 ? "" : text.substring(start, end);
    }

    private static String plain(String text) {
        return text.replaceAll("```(text)?", " ").replaceAll("\\s+", " ").trim();
    }
}
