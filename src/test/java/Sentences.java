import java.io.IOException;
import java.nio.file.Files;
import java.nio.file.Path;
import java.util.LinkedHashMap;
import java.util.List;
import java.util.Map;

/**
 * Runs of calls, each told with the words of the document that it tests. At the end, words that are not in the document
 * are a fault, and so is a sentence of the document that no run was told with.
 */
final class Sentences {
    private static final Path DOCUMENT = Path.of("../shared/DOC.md");
    private static final List<String> NOT_FOR_RUNS = List.of("The public face", "Not promised");

    /** A section of the document, and which of its letters were cited. */
    private static final class Section {
        final String text;
        final boolean[] cited;

        Section(String text) {
            this.text = text;
            cited = new boolean[text.length()];
        }
    }

    private final Script script = new Script();
    private final Map<String, Section> document = new LinkedHashMap<>();
    private String heading = "";

    Sentences() throws IOException {
        if (!Files.isReadable(DOCUMENT)) {
            System.out.println("no document at " + DOCUMENT + ": what the runs cite is not looked up");
            return;
        }
        for (String part : Files.readString(DOCUMENT).split("(?m)^## ")) {
            String[] halves = part.split("\n", 2);
            String title = halves[0].trim();
            if (!title.startsWith("# ") && !NOT_FOR_RUNS.contains(title)) {
                document.put(title, new Section(plain(halves[1])));
            }
        }
    }

    // The signature before a promise's first sentence is the public face, which LanguageTest tests.
    private static String plain(String text) {
        return text.strip().replaceFirst("^`[^`]*\\)`:", "").replace("```text", "").replace("`", "")
                .replaceAll("\\s+", " ").strip();
    }

    void section(String title) {
        heading = title;
    }

    void run(String words, String text) {
        cite(words);
        script.run(heading + ", \"" + words + "\"", text);
    }

    /** Words that no call can show, or that only lead up to others. */
    void noRun(String words) {
        cite(words);
    }

    private void cite(String words) {
        if (document.isEmpty()) {
            return;
        }
        Section section = document.get(heading);
        int from = section == null ? -1 : section.text.indexOf(words);
        if (from < 0) {
            script.fault("the document does not say under " + heading + ": " + words);
            return;
        }
        for (int k = from; k < from + words.length(); k++) {
            section.cited[k] = true;
        }
    }

    void end() {
        document.forEach((title, section) -> {
            StringBuilder rest = new StringBuilder();
            for (int k = 0; k < section.cited.length; k++) {
                rest.append(section.cited[k] ? '|' : section.text.charAt(k));
            }
            for (String words : rest.toString().split("\\|+")) {
                if (words.chars().anyMatch(Character::isLetterOrDigit)) {
                    script.fault("no run for what the document says under " + title + ": " + words.strip());
                }
            }
        });
        script.end();
    }
}
