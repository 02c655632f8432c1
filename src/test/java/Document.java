import java.io.IOException;
import java.nio.charset.StandardCharsets;
import java.nio.file.Files;
import java.nio.file.Path;
import java.util.Arrays;
import java.util.LinkedHashMap;
import java.util.Map;

/** The sections of DOC.md whose sentences are tested, and which parts of them were quoted. */
final class Document {
    private final Map<String, String> texts = new LinkedHashMap<>();
    private final Map<String, boolean[]> quoted = new LinkedHashMap<>();
    private String section = "";

    Document(Path file) throws IOException {
        String heading = "";
        StringBuilder text = new StringBuilder();
        for (String line : Files.readAllLines(file, StandardCharsets.UTF_8)) {
            if (line.startsWith("## ")) {
                keep(heading, text);
                heading = line.substring(3);
            } else if (!line.startsWith("```")) {
                text.append(line).append(' ');
            }
        }
        keep(heading, text);
    }

    private void keep(String heading, StringBuilder text) {
        boolean wanted = heading.startsWith("Promise ") || heading.equals("Terms") || heading.equals("What it is");
        if (wanted) {
            // Ahead of a promise stands the method's face, ahead of the calls of an object what all is about.
            String whole = text.toString().replaceFirst("^ *`[^`]*`:", "").replaceFirst("^.*(?=An object is used)", "")
                    .replaceAll("==== [IV]+\\.", "").replaceAll("\\s+", " ").trim();
            texts.put(heading, whole);
            quoted.put(heading, new boolean[whole.length()]);
        }
        text.setLength(0);
    }

    String section() {
        return section;
    }

    void turnTo(String heading) {
        section = heading;
        Check.due("a section of the document: " + heading, texts.containsKey(heading), true);
    }

    /** Whether the section has these words. */
    boolean quote(String words) {
        String text = texts.getOrDefault(section, "");
        int from = text.indexOf(words);
        if (from < 0) {
            return false;
        }
        for (int at = from; at >= 0; at = text.indexOf(words, at + 1)) {
            Arrays.fill(quoted.get(section), at, at + words.length(), true);
        }
        return true;
    }

    /** Words that no test quotes are a sentence without a test. */
    void untested() {
        for (Map.Entry<String, String> one : texts.entrySet()) {
            StringBuilder left = new StringBuilder();
            boolean[] done = quoted.get(one.getKey());
            for (int at = 0; at < done.length; at++) {
                left.append(done[at] ? '~' : one.getValue().charAt(at));
            }
            for (String words : left.toString().split("~+")) {
                boolean tested = words.replaceAll("[^A-Za-z0-9#*+<>]", "").isEmpty();
                Check.due("no test quotes, of " + one.getKey() + ": " + words, tested, true);
            }
        }
    }
}
