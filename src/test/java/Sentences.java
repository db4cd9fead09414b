import java.io.IOException;
import java.nio.file.Files;
import java.nio.file.Path;
import java.util.ArrayList;
import java.util.List;

/**
 * Tests that each belong to words of the document: the words must stand there, and at the end every word of the
 * document's terms, parts and promises must belong to a test.
 */
final class Sentences {
    static final int PROMISES = 49;
    /** Where the terms and the three parts stand, ahead of the promises. */
    static final int TERMS = 0;

    final Due due;
    private final List<String> sections = new ArrayList<>();
    private final List<boolean[]> covered = new ArrayList<>();

    Sentences(Due due) throws IOException {
        this.due = due;
        String doc = Files.readString(Path.of("../shared/DOC.md"));
        add(between(doc, "## Terms\n", "Ahead of the calls").replace("```text", ""));
        for (int p = 1; p <= PROMISES; p++) {
            String promise = between(doc, "## Promise " + p + ": ", "\n## ");
            add(promise.substring(promise.indexOf("`: ") + 3));
        }
    }

    private static String between(String doc, String first, String last) {
        int start = doc.indexOf(first) + first.length();
        return doc.substring(start, doc.indexOf(last, start));
    }

    private void add(String section) {
        String plain = section.trim().replaceAll("\\s+", " ");
        sections.add(plain);
        covered.add(new boolean[plain.length()]);
    }

    interface Trial {
        void on(DoorCalls x);
    }

    /** A test, on a new object, of words of a promise (0: of the terms and parts). */
    void says(int promise, String words, Trial trial) {
        int start = sections.get(promise).indexOf(words);
        due.about("");
        due.is("promise " + promise + " says '" + words + "'", start >= 0 ? 1 : 0, 1);
        for (int k = start; start >= 0 && k < start + words.length(); k++) {
            covered.get(promise)[k] = true;
        }
        due.about("promise " + promise + ", '" + words + "': ");
        trial.on(new DoorCalls());
        due.about("");
    }

    /** Looks for words that no test belongs to. */
    void allAreTested() {
        for (int p = 0; p <= PROMISES; p++) {
            String section = sections.get(p);
            StringBuilder left = new StringBuilder();
            for (int k = 0; k < section.length(); k++) {
                left.append(covered.get(p)[k] ? ' ' : section.charAt(k));
            }
            String words = left.toString().replaceAll("[^A-Za-z]*(^|\\s)[^A-Za-z]+(\\s|$)", " ").trim();
            due.is("promise " + p + " has words without a test: '" + words + "'", letters(words), 0);
        }
    }

    private static long letters(String words) {
        return words.chars().filter(Character::isLetter).count();
    }
}
