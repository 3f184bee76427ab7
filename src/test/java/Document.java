import java.io.IOException;
import java.nio.file.Files;
import java.nio.file.Path;
import java.util.LinkedHashSet;
import java.util.Set;

/** The sentences of ../shared/DOC.md, each behind its section's name, without backticks and the last point. */
final class Document {
    private final Set<String> sentences = new LinkedHashSet<>();
    /** Those that must have a test; others only give a name to something, or say what a parameter is. */
    private final Set<String> promised = new LinkedHashSet<>();

    static Document read() {
        try {
            Document document = new Document();
            String section = "";
            for (String line : Files.readAllLines(Path.of("..", "shared", "DOC.md"))) {
                if (line.startsWith("## ")) {
                    section = line.substring(3).split(":")[0];
                } else if (section.startsWith("Promise ")) {
                    document.addLineOfPromise(section, line);
                } else if (section.equals("Terms") || section.equals("What it is")) {
                    document.addParagraph(section, line);
                }
            }
            return document;
        } catch (IOException e) {
            throw new AssertionError("the document cannot be read", e);
        }
    }

    static String key(String section, String sentence) {
        return section + ": " + sentence;
    }

    boolean has(String key) {
        return sentences.contains(key);
    }

    Set<String> promised() {
        return promised;
    }

    private void addLineOfPromise(String section, String line) {
        boolean isParameter = line.startsWith("- ");
        String text = isParameter ? line.substring(2) : line.replaceFirst("^`[^`]*`: ", "");
        boolean isPromised = !isParameter || text.matches(".*[0-9].*");
        add(section, text, isPromised);
    }

    private void addParagraph(String section, String paragraph) {
        for (String sentence : paragraph.split("(?<=\\.) (?=[A-Z])")) {
            boolean isTitle = sentence.matches("[A-Za-z]+\\.") || sentence.startsWith("Ahead of the calls ");
            boolean isPromised = !isTitle || sentence.contains("changes anything");
            add(section, sentence, section.equals("Terms") && isPromised);
        }
    }

    private void add(String section, String text, boolean isPromised) {
        String sentence = text.replace("`", "").replaceFirst("\\.$", "").trim();
        if (!sentence.isEmpty()) {
            sentences.add(key(section, sentence));
            if (isPromised) {
                promised.add(key(section, sentence));
            }
        }
    }
}
