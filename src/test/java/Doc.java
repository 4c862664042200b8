import java.io.IOException;
import java.nio.file.Files;
import java.nio.file.Path;
import java.util.ArrayList;
import java.util.LinkedHashMap;
import java.util.List;
import java.util.Map;

/**
 * The document's sentences. A test of a boundary case is a run that is named by the sentence it
 * holds to, so that a sentence that is no longer there, or that has no test, is a failure.
 */
final class Doc {
    private static final Path DOCUMENT = Path.of("../shared/DOC.md");
    private static final Map<String, StringBuilder> SECTIONS = read();
    private static final Map<String, List<String>> QUOTED = new LinkedHashMap<>();

    private Doc() {
    }

    /** A run on a new object, for a sentence, or a part of one, of a promise. */
    static Run promise(int number, String sentence) {
        return run("Promise " + number, sentence);
    }

    /** The same for the sections under 'Terms', by the words that head them. */
    static Run run(String section, String sentence) {
        String text = SECTIONS.getOrDefault(section, new StringBuilder()).toString();
        Run.check("the document says in " + section + ": " + sentence,
            plain(text).contains(plain(sentence)), true);
        QUOTED.computeIfAbsent(section, key -> new ArrayList<>()).add(plain(sentence));
        return new Run(section + ", " + sentence);
    }

    /**
     * Every argument, every result and every exception of these promises has a run; where the values
     * of an argument are told one by one, each of them has.
     */
    static void allTested(int from, int to) {
        for (int number = from; number <= to; number++) {
            String section = "Promise " + number;
            for (String line : SECTIONS.get(section).toString().split("\n")) {
                if (line.startsWith("- `what`: 0:")) {
                    for (String value : line.replace("- `what`: ", "").split("; ")) {
                        isTested(section, value);
                    }
                } else if (line.startsWith("- `")) {
                    isTested(section, line.substring(2));
                } else if (line.startsWith("Throws ") || line.startsWith("Returns ") && !line.equals("Returns that number.")
                        && !line.equals("Returns it.")) {
                    isTested(section, line);
                }
            }
        }
    }

    /** Every sentence of a section under 'Terms' has a run. */
    static void allTested(String section) {
        for (String sentence : plain(SECTIONS.get(section).toString()).split("(?<=\\.) ")) {
            isTested(section, sentence);
        }
    }

    private static void isTested(String section, String sentence) {
        boolean isTested = false;
        for (String quoted : QUOTED.getOrDefault(section, new ArrayList<>())) {
            isTested |= plain(sentence).contains(quoted);
        }
        Run.check("there is a test for " + section + ": " + sentence, isTested, true);
    }

    private static String plain(String text) {
        return text.replaceAll("\\s+", " ").trim();
    }

    private static Map<String, StringBuilder> read() {
        Map<String, StringBuilder> sections = new LinkedHashMap<>();
        String section = "";
        try {
            for (String line : Files.readAllLines(DOCUMENT)) {
                if (line.startsWith("#")) {
                    section = line.replaceAll("^#+ ", "").replaceAll(":.*", "");
                } else if (line.matches("[A-Z ]+")) {
                    section = line;
                } else if (line.startsWith("The constants:")) {
                    section = "the face";
                }
                if (!line.startsWith("#") && !line.equals(section)) {
                    sections.computeIfAbsent(section, key -> new StringBuilder()).append(line).append("\n");
                }
            }
        } catch (IOException e) {
            throw new AssertionError(e);
        }
        return sections;
    }
}
