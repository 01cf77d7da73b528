import java.io.IOException;
import java.nio.file.Files;
import java.nio.file.Path;
import java.util.ArrayList;
import java.util.LinkedHashSet;
import java.util.List;
import java.util.Set;

/** The document's sentences, section by section, and which of them a test has looked at. */
final class Sentences {
    private static final Path DOCUMENT = Path.of("..", "shared", "DOC.md");

    private final Check check;
    private final Set<String> lookedAt = new LinkedHashSet<>();
    private String section = "";

    Sentences(Check check) {
        this.check = check;
    }

    void section(String title) {
        section = title;
    }

    /** The answers looked at from here on keep or break this sentence of the section. */
    void next(String sentence) {
        check.sentence(section + ": " + sentence);
        lookedAt.add(section + ": " + sentence);
    }

    /** None of the sections' sentences was left out, and none was looked at that is not there. */
    void lookWhetherAllWere(String... sections) throws IOException {
        if (!Files.isReadable(DOCUMENT)) {
            System.out.println("there is no " + DOCUMENT + " to compare the sentences with");
            return;
        }
        Set<String> due = new LinkedHashSet<>(sentencesOf(Files.readAllLines(DOCUMENT), List.of(sections)));
        check.sentence("every sentence of the document");
        for (String sentence : due) {
            check.due("a test of '" + sentence + "'", lookedAt.contains(sentence), true);
        }
        for (String sentence : lookedAt) {
            check.due("a sentence '" + sentence + "'", due.contains(sentence), true);
        }
    }

    private static List<String> sentencesOf(List<String> lines, List<String> sections) {
        List<String> sentences = new ArrayList<>();
        String title = "";
        for (String line : lines) {
            if (line.startsWith("#")) {
                title = line.replaceFirst("^#+ ", "");
            } else if (sections.contains(title) && !line.isBlank()) {
                // A sentence's full stop is a single one; "0 .. 5" has two.
                for (String sentence : withoutSignature(line).split("(?<=[^.]\\.) +")) {
                    sentences.add(title + ": " + sentence);
                }
            }
        }
        return sentences;
    }

    private static String withoutSignature(String line) {
        return line.replaceFirst("^`[^`]*`: ", "");
    }
}
