import java.io.IOException;
import java.nio.file.Files;
import java.nio.file.Path;
import java.util.ArrayList;
import java.util.List;
import java.util.regex.Matcher;
import java.util.regex.Pattern;
import java.util.stream.Stream;

/**
 * Each word of the document, from its terms to its last promise, stands in a
 * sentence that some test tells with due.of: no sentence is left without one.
 * Run from the project's root.
 */
public final class SentencesTest {
    private static final Path DOCUMENT = Path.of("../shared/DOC.md");
    private static final Path TESTS = Path.of("src/test/java");
    private static final String STRING = "\"((?:[^\"\\\\\n]|\\\\.)*)\"";
    private static final Pattern TOLD = Pattern.compile("due\\.of\\(" + STRING + "((?:\\s*\\+ " + STRING + ")*)\\)");
    /** Headings, and lines that ask nothing of the class. */
    private static final Pattern NO_PROMISE = Pattern.compile("#.*|[A-Z ]+|Ahead of the calls .*");
    private static final String[] NO_PROMISE_EITHER = {"Errors are reported by the constants below."};

    private SentencesTest() {
    }

    public static void main(String[] args) throws IOException {
        Due due = new Due();
        String document = Files.readString(DOCUMENT);
        int first = document.indexOf("## Terms");
        int end = document.indexOf("## Not promised");
        due.is("the document has its parts", first >= 0 && end > first ? 1 : 0, 1);
        String promised = first >= 0 && end > first ? document.substring(first, end) : "";
        boolean[] isTold = placesThatAreTold(promised, sentencesOfTests());
        int start = 0;
        for (String line : promised.split("\n")) {
            String untold = untold(line, start, isTold);
            due.is("words without a test in \"" + line + "\": " + untold, untold.length(), 0);
            start += line.length() + 1;
        }
        due.end();
    }

    private static List<String> sentencesOfTests() throws IOException {
        List<String> sentences = new ArrayList<>();
        for (String word : NO_PROMISE_EITHER) {
            sentences.add(word);
        }
        try (Stream<Path> files = Files.list(TESTS)) {
            for (Path file : files.sorted().toList()) {
                Matcher told = TOLD.matcher(Files.readString(file));
                while (told.find()) {
                    sentences.add(joined(told.group()));
                }
            }
        }
        return sentences;
    }

    private static String joined(String parts) {
        StringBuilder whole = new StringBuilder();
        Matcher part = Pattern.compile(STRING).matcher(parts);
        while (part.find()) {
            whole.append(part.group(1).replace("\\\"", "\""));
        }
        return whole.toString();
    }

    private static boolean[] placesThatAreTold(String promised, List<String> sentences) {
        boolean[] isTold = new boolean[promised.length()];
        for (String sentence : sentences) {
            int at = sentence.isEmpty() ? -1 : promised.indexOf(sentence);
            while (at >= 0) {
                for (int i = at; i < at + sentence.length(); i++) {
                    isTold[i] = true;
                }
                at = promised.indexOf(sentence, at + 1);
            }
        }
        return isTold;
    }

    private static String untold(String line, int start, boolean[] isTold) {
        StringBuilder words = new StringBuilder();
        if (NO_PROMISE.matcher(line).matches()) {
            return "";
        }
        Matcher word = Pattern.compile("\\w+").matcher(line);
        while (word.find()) {
            if (!isTold[start + word.start()] || !isTold[start + word.end() - 1]) {
                words.append(words.length() == 0 ? "" : " ").append(word.group());
            }
        }
        return words.toString();
    }
}
