import java.io.IOException;
import java.nio.file.Files;
import java.nio.file.Path;
import java.util.ArrayList;
import java.util.List;

/**
 * The sentences of the document from "Terms" to the last promise, each with its heading, and which of
 * them a test has quoted. So a sentence that is new or says something else leaves no test unnoticed.
 */
final class Sentences {
    private static final Path DOCUMENT = Path.of("../shared/DOC.md");
    private static final String FIRST_HEADING = "Terms";
    private static final String HEADING_BEHIND = "Not promised";
    /** It stands in the document without the signs of a heading. */
    private static final String PLAIN_HEADING = "Board, pencil";

    private static final class Sentence {
        final String heading;
        final String text;
        boolean isQuoted = false;

        Sentence(String heading, String text) {
            this.heading = heading;
            this.text = text;
        }
    }

    private final List<Sentence> sentences = new ArrayList<>();

    Sentences() {
        String heading = "";
        boolean isInside = false;
        for (String line : lines()) {
            if (line.startsWith("#") || line.equals(PLAIN_HEADING)) {
                heading = line.replaceFirst("^#+ ", "");
                isInside = heading.equals(FIRST_HEADING) || isInside && !heading.equals(HEADING_BEHIND);
            } else if (isInside && !line.isBlank()) {
                addAll(heading, line);
            }
        }
    }

    /** None if the document cannot be read here: the answers of the class can be tested all the same. */
    private static List<String> lines() {
        try {
            return Files.readAllLines(DOCUMENT);
        } catch (IOException unreadable) {
            System.out.println(DOCUMENT + " cannot be read: no sentence is compared");
            return List.of();
        }
    }

    boolean isThere() {
        return !sentences.isEmpty();
    }

    private void addAll(String heading, String line) {
        if (line.startsWith("- ")) {
            sentences.add(new Sentence(heading, line.substring(2)));
            return;
        }
        for (String text : line.split("(?<=\\.\\)?) (?=[A-Z(])")) {
            sentences.add(new Sentence(heading, text));
        }
    }

    /** Marks the sentence under the heading in which the quoted words stand; tells how many there are. */
    int quote(String heading, String words) {
        int found = 0;
        for (Sentence sentence : sentences) {
            if (sentence.heading.equals(heading) && sentence.text.contains(words)) {
                sentence.isQuoted = true;
                found++;
            }
        }
        return found;
    }

    List<String> unquoted() {
        List<String> left = new ArrayList<>();
        for (Sentence sentence : sentences) {
            if (!sentence.isQuoted) {
                left.add(sentence.heading + ": " + sentence.text);
            }
        }
        return left;
    }

    int size() {
        return sentences.size();
    }
}
