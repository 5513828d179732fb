import java.nio.file.Files;
import java.nio.file.Path;
import java.util.ArrayList;
import java.util.LinkedHashMap;
import java.util.List;
import java.util.Map;

/** The document, by its sections: the four of "Terms" are named "1" to "4", the promises "Promise 1" and so on. */
final class Document {
    private static final Map<String, List<String>> SECTIONS = readSections();

    private Document() {
    }

    static Iterable<String> sections() {
        return SECTIONS.keySet();
    }

    /** The lines of a section that are not empty. */
    static List<String> lines(String section) {
        return SECTIONS.getOrDefault(section, List.of());
    }

    /** The lines of a section cut into sentences; what begins a line with the face of a method loses it. */
    static List<String> sentences(String section) {
        List<String> sentences = new ArrayList<>();
        for (String line : lines(section)) {
            for (String sentence : line.replaceFirst("^`[^`]*`: ", "").split("(?<=[.]|[.][)]) (?=[A-Z(])")) {
                sentences.add(sentence);
            }
        }
        return sentences;
    }

    static Path path() {
        String shared = System.getenv("SHARED");
        return Path.of(shared == null ? "../shared" : shared, "DOC.md");
    }

    private static Map<String, List<String>> readSections() {
        Map<String, List<String>> sections = new LinkedHashMap<>();
        String section = "";
        for (String line : readLines()) {
            if (line.startsWith("## ")) {
                section = line.startsWith("## Promise ") ? line.substring(3, line.indexOf(':')) : line.substring(3);
            } else if (section.matches("Terms|[1-4]") && line.matches("[1-4]\\. .*")) {
                section = line.substring(0, 1);
            } else if (!line.isBlank()) {
                sections.computeIfAbsent(section, name -> new ArrayList<>()).add(line);
            }
        }
        return sections;
    }

    private static List<String> readLines() {
        try {
            return Files.readAllLines(path());
        } catch (java.io.IOException e) {
            throw new IllegalStateException("the document cannot be read", e);
        }
    }
}
