import java.io.IOException;
import java.nio.file.Files;
import java.nio.file.Path;
import java.util.ArrayList;
import java.util.HashSet;
import java.util.List;
import java.util.Set;

/**
 * Ties the tests of the edges to the sentences of the document: each sentence that names an edge is
 * tested, and each tested one stands in the document.
 */
final class Sentence {
    private static final Path DOCUMENT = Path.of("../shared/DOC.md");
    private static final Set<String> TESTED = new HashSet<>();
    private static String now = "";
    private static int answersBefore;

    private Sentence() {
    }

    /** From here to the next sentence the answers are those to this one. */
    static void test(String section, String sentence) {
        endOfSentence();
        now = section + ": " + sentence;
        TESTED.add(now);
        answersBefore = Due.answers();
        Due.nowIn(now);
    }

    /** Compares with the document; section by section, those from the first to the last promise. */
    static void allTested(int firstPromise, int lastPromise) throws IOException {
        endOfSentence();
        for (int promise = firstPromise; promise <= lastPromise; promise++) {
            compare("Promise " + promise);
        }
    }

    static void allTermsTested() throws IOException {
        endOfSentence();
        compare("Terms");
    }

    private static void endOfSentence() {
        if (!now.isEmpty()) {
            boolean looked = Due.answers() > answersBefore;
            Due.answers(true, "some answer was looked at", () -> looked);
        }
        now = "";
        Due.nowIn("");
    }

    private static void compare(String section) throws IOException {
        if (!Files.exists(DOCUMENT)) {
            System.out.println("the document is not here, so " + section + " is not compared");
            return;
        }
        List<String> lines = linesOf(section);
        String text = String.join("\n", lines);
        for (String sentence : edgesIn(section, lines)) {
            Due.answers(true, section + " is tested for: " + sentence,
                () -> TESTED.contains(section + ": " + sentence));
        }
        for (String tested : TESTED) {
            if (tested.startsWith(section + ": ")) {
                Due.answers(true, "the document says: " + tested,
                    () -> text.contains(tested.substring(section.length() + 2)));
            }
        }
    }

    private static List<String> linesOf(String section) throws IOException {
        List<String> lines = new ArrayList<>();
        boolean inside = false;
        for (String line : Files.readAllLines(DOCUMENT)) {
            if (line.startsWith("## ")) {
                inside = line.equals("## " + section) || line.startsWith("## " + section + ":");
            } else if (inside) {
                lines.add(line);
            }
        }
        return lines;
    }

    /** In a promise, what it says of arguments, answers and exceptions; in the terms, all. */
    private static List<String> edgesIn(String section, List<String> lines) {
        List<String> edges = new ArrayList<>();
        for (String line : lines) {
            if (section.equals("Terms")) {
                addTerms(edges, line);
            } else if (line.startsWith("- `") || line.startsWith("Returns ")
                    || line.startsWith("Throws ")) {
                edges.add(line);
            }
        }
        return edges;
    }

    /** The first word of a paragraph is its title; two sorts of paragraphs only introduce. */
    private static void addTerms(List<String> edges, String paragraph) {
        if (paragraph.isEmpty() || paragraph.startsWith("Its calls are")
                || paragraph.startsWith("Ahead of the calls")) {
            return;
        }
        for (String sentence : paragraph.split("(?<=\\.) ")) {
            if (sentence.contains(" ")) {
                edges.add(sentence);
            }
        }
    }
}
