import java.io.IOException;
import java.nio.file.Files;
import java.nio.file.Path;
import java.util.Arrays;
import java.util.LinkedHashMap;
import java.util.Map;

/** The sections of the document, and which of their words have been quoted by a test. */
final class Document {
    private static final Path PLACE = Path.of("../shared/DOC.md");

    private final Map<String, String> texts = new LinkedHashMap<>();
    private final Map<String, boolean[]> quoted = new LinkedHashMap<>();

    Document() throws IOException {
        String all = Files.readString(PLACE).replaceAll("```(text)?", "").replaceAll("\\s+", " ");
        add("Terms", between(all, "## Terms", "NAMES:"));
        add("Names", between(all, "NAMES:", "In all calls:"));
        add("Answers", between(all, "In all calls:", "## Promise 1:"));
        for (int promise = 1; promise <= 24; promise++) {
            String until = promise == 24 ? "## Not promised" : "## Promise " + (promise + 1) + ":";
            String section = between(all, "## Promise " + promise + ":", until);
            add("Promise " + promise, section.substring(section.indexOf("`: ") + 3));
        }
    }

    private static String between(String all, String from, String until) {
        int start = all.indexOf(from);
        int end = all.indexOf(until, start);
        if (start < 0 || end < 0) {
            throw new IllegalStateException(PLACE + " has no " + from + " before " + until);
        }
        return all.substring(start + from.length(), end);
    }

    private void add(String section, String text) {
        texts.put(section, text);
        boolean[] marks = new boolean[text.length()];
        quoted.put(section, marks);
    }

    /** Marks words of a section, in the first place where they were not marked: whether it has them. */
    boolean quote(String section, String words) {
        String text = texts.get(section);
        boolean[] marks = quoted.get(section);
        int at = text.indexOf(words);
        int first = at;
        while (at >= 0 && marks[at]) {
            at = text.indexOf(words, at + 1);
        }
        int from = at >= 0 ? at : first;
        if (from < 0) {
            return false;
        }
        Arrays.fill(marks, from, from + words.length(), true);
        return true;
    }

    /** What no test has quoted, with a bar for each gap. */
    String unquoted(String section) {
        String text = texts.get(section);
        boolean[] marks = quoted.get(section);
        StringBuilder left = new StringBuilder();
        for (int i = 0; i < text.length(); i++) {
            left.append(marks[i] ? '|' : text.charAt(i));
        }
        String told = left.toString().replaceAll("\\|+", "|");
        return told.matches("(?s).*[A-Za-z0-9].*") ? told : "";
    }
}
