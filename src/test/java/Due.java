import java.io.IOException;
import java.nio.file.Files;
import java.nio.file.Path;
import java.util.List;

/** Compares answers with those that are due, and ends a test. */
final class Due {
    private static final Path DOCUMENT = Path.of("../shared/DOC.md");

    private final String document = textOfTheDocument();
    private int asked;
    private int wrong;
    private String sentence = "";

    /** The words of the document that are tested from then on: told with each wrong answer. */
    void of(String words) {
        sentence = words;
        if (!document.isEmpty() && !document.contains(words)) {
            tellWrong("the document has no such words");
        }
    }

    void is(String call, long got, long want) {
        asked++;
        if (got != want) {
            tellWrong(call + " answered " + got + ", due is " + want);
        }
    }

    void same(String call, List<Integer> got, List<Integer> want) {
        asked++;
        if (!got.equals(want)) {
            tellWrong(call + " differs " + Told.firstDifference(got, want));
        }
    }

    int wrong() {
        return wrong;
    }

    void end() {
        System.out.println(asked + " answers, " + wrong + " wrong");
        if (wrong != 0 || asked == 0) {
            System.exit(1);
        }
    }

    /** Empty if it cannot be read: the answers are compared all the same. */
    private static String textOfTheDocument() {
        try {
            return Files.exists(DOCUMENT) ? Files.readString(DOCUMENT) : "";
        } catch (IOException e) {
            return "";
        }
    }

    private void tellWrong(String answer) {
        wrong++;
        System.out.println(sentence.isEmpty() ? answer : "\"" + sentence + "\": " + answer);
    }
}
