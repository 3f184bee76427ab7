import java.io.IOException;
import java.nio.file.Files;
import java.nio.file.Path;
import java.util.ArrayList;
import java.util.LinkedHashMap;
import java.util.LinkedHashSet;
import java.util.List;
import java.util.Map;
import java.util.Set;
import java.util.regex.Matcher;
import java.util.regex.Pattern;

/**
 * The sentences of ../shared/DOC.md, each behind its section's name, without backticks and the last point; and the
 * public face as it stands there.
 */
final class Document {
    private static final Pattern HEADING =
            Pattern.compile("Ahead of the calls (?<calls>.*) the interface says: (?<says>.*)\\.");

    private final Set<String> sentences = new LinkedHashSet<>();
    /** Those that must have a test; others only give a name to something, or say what a parameter is. */
    private final Set<String> promised = new LinkedHashSet<>();
    private final List<String> face = new ArrayList<>();
    /** By what the interface says, the calls that it says it ahead of. */
    private final Map<String, List<String>> headings = new LinkedHashMap<>();

    static Document read() {
        try {
            Document document = new Document();
            String section = "";
            for (String line : Files.readAllLines(Path.of("..", "shared", "DOC.md"))) {
                if (line.startsWith("## ")) {
                    section = line.substring(3).split(":")[0];
                } else if (section.equals("The public face")) {
                    document.addLineOfFace(line);
                } else if (section.startsWith("Promise ")) {
                    document.addLineOfPromise(section, line);
                } else if (section.equals("Terms") || section.equals("What it is")) {
                    document.addParagraph(section, line);
                }
            }
            return document;
        } catch (IOException e) {
            throw new AssertionError("the document cannot be read", e);
        }
    }

    static String key(String section, String sentence) {
        return section + ": " + sentence;
    }

    boolean has(String key) {
        return sentences.contains(key);
    }

    Set<String> promised() {
        return promised;
    }

    /** The constructor and the methods, each line without the semicolon at its end. */
    List<String> face() {
        return face;
    }

    Map<String, List<String>> headings() {
        return headings;
    }

    private void addLineOfFace(String line) {
        if (line.startsWith("    ") && line.endsWith(";")) {
            face.add(line.substring(0, line.length() - 1).trim());
        }
    }

    private void addLineOfPromise(String section, String line) {
        boolean isParameter = line.startsWith("- ");
        String text = isParameter ? line.substring(2) : line.replaceFirst("^`[^`]*`: ", "");
        boolean isPromised = !isParameter || text.matches(".*[0-9].*");
        add(section, text, isPromised);
    }

    private void addParagraph(String section, String paragraph) {
        Matcher heading = HEADING.matcher(paragraph);
        if (heading.matches()) {
            headings.put(heading.group("says"), List.of(heading.group("calls").replace("`", "").split(", ")));
        }
        for (String sentence : paragraph.split("(?<=\\.) (?=[A-Z])")) {
            boolean isTitle = sentence.matches("[A-Za-z]+\\.") || sentence.startsWith("Ahead of the calls ");
            boolean isPromised = !isTitle || sentence.contains("changes anything");
            add(section, sentence, section.equals("Terms") && isPromised);
        }
    }

    private void add(String section, String text, boolean isPromised) {
        String sentence = text.replace("`", "").replaceFirst("\\.$", "").trim();
        if (!sentence.isEmpty()) {
            sentences.add(key(section, sentence));
            if (isPromised) {
                promised.add(key(section, sentence));
            }
        }
    }
}
