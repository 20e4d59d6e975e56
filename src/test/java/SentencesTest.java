import java.io.IOException;
import java.nio.file.Files;
import java.nio.file.Path;
import java.util.Set;
import java.util.TreeSet;

/** Every sentence of the document that promises an answer is held by a test, under its words. */
public final class SentencesTest {
    private static final Due T = new Due("SentencesTest");
    private static final Path DOCUMENT = Path.of("../shared/DOC.md");

    public static void main(String[] args) throws IOException {
        ConventionsTest.main(args);
        ClassesTest.main(args);
        StepsTest.main(args);
        RollbackTest.main(args);
        FramesTest.main(args);
        ObjectsTest.main(args);
        AccessTest.main(args);
        T.due(Due.HELD.isEmpty() ? 1 : 0, 0);
        if (Files.exists(DOCUMENT)) {
            compare(sentences());
        } else {
            System.out.println("SentencesTest: " + DOCUMENT + " is not there to compare with");
        }
        T.end();
    }

    private static void compare(Set<String> told) {
        for (String sentence : told) {
            boolean held = Due.HELD.contains(sentence);
            T.due(held ? 1 : 0, 1);
            if (!held) {
                T.fail("no test holds: " + sentence);
            }
        }
        for (String sentence : Due.HELD) {
            boolean stands = told.contains(sentence);
            T.due(stands ? 1 : 0, 1);
            if (!stands) {
                T.fail("the document does not say: " + sentence);
            }
        }
    }

    /** The sentences of the description and of the promises, each behind its heading. */
    private static Set<String> sentences() throws IOException {
        Set<String> told = new TreeSet<>();
        String heading = "";
        for (String line : Files.readAllLines(DOCUMENT)) {
            if (line.startsWith("## ")) {
                heading = line.matches("## Promise .*:.*")
                        ? line.substring(3, line.indexOf(':')) : "";
            } else if (line.matches("[A-Z ]+\\.")) {
                heading = line.substring(0, line.length() - 1);
            } else if (line.startsWith("Examples:")) {
                // they and the list of constants have tests of their own
                heading = "";
            } else if (!heading.isEmpty()) {
                addSentences(told, heading, line);
            }
        }
        return told;
    }

    private static void addSentences(Set<String> told, String heading, String line) {
        boolean parameter = line.startsWith("- `");
        boolean namesNumbers = line.matches(".*[0-9].*");
        if (line.isBlank() || line.startsWith("`") || line.startsWith("----")
                || parameter && !namesNumbers) {
            return;
        }
        String text = line.replaceAll("^- ", "").replace("`", "").replaceAll("\\.$", "");
        if (line.startsWith("- ")) {
            told.add(heading + ": " + text);
            return;
        }
        for (String sentence : text.split("(?<=[a-z0-9)])[.;] ")) {
            told.add(heading + ": " + sentence);
        }
    }
}
