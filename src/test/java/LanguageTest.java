import java.io.IOException;
import java.nio.file.Files;
import java.nio.file.Path;
import java.util.regex.Matcher;
import java.util.regex.Pattern;

/** Rules of ../shared/LANGUAGE.md that can be seen from the text of the class; run from the project's root. */
public final class LanguageTest {
    private static final String[] BANNED = {
        "\\b(package|import|throw|throws|try|catch|finally|synchronized|assert|native|volatile)\\b",
        "->", "::", "@\\w+", "\\b(System\\.out|System\\.exit|Thread|Runtime|Random|Object|Override)\\b",
        "\\w*Exact\\(", "\\b(equals|hashCode|toString)\\b",
        "\\b(Integer|Long|Character|Boolean)\\.[A-Z]", "\\bSystem\\.(?!arraycopy\\()", "\\bMath\\.(?!min\\(|max\\(|abs\\()",
        "\\bstatic (?!final\\b)(?:\\w+(?:\\[\\])*) \\w+ *(=|;)",
        "^ ++(?!private static )[a-z ]*\\b(class|enum|interface|record) [A-Z]",
        "\\b(protected|yield)\\b",
    };
    private static final int LONGEST_METHOD = 60;
    private static final int MOST_CLASSES = 12;

    private LanguageTest() {
    }

    public static void main(String[] args) throws IOException {
        Due due = new Due();
        String source = Files.readString(Path.of("src/main/java/CaughtPellets.java"));
        String code = withoutComments(source);
        for (String banned : BANNED) {
            Matcher matcher = Pattern.compile(banned, Pattern.MULTILINE).matcher(code);
            due.is("places of " + banned + (matcher.find() ? " (" + matcher.group() + ")" : ""),
                matcher.reset().results().count(), 0);
        }
        due.is("signs above 127", source.chars().filter(sign -> sign > 127).count(), 0);
        long classes = Pattern.compile("\\bclass [A-Z]").matcher(code).results().count();
        due.is("classes are not too many", Math.max(classes, MOST_CLASSES), MOST_CLASSES);
        due.is("the longest method is short enough", Math.max(longestMethod(code), LONGEST_METHOD), LONGEST_METHOD);
        due.end();
    }

    private static String withoutComments(String source) {
        return source.replaceAll("(?s)/\\*.*?\\*/", "").replaceAll("//[^\n]*", "");
    }

    /** In lines: from a head that ends with "{" to the brace that is as far from the left. */
    private static int longestMethod(String code) {
        int longest = 0;
        Pattern method = Pattern.compile("^( +)[\\w\\[\\] ]+\\([^\n]*\\) \\{$(?s).*?^\\1\\}$", Pattern.MULTILINE);
        Matcher matcher = method.matcher(code);
        while (matcher.find()) {
            longest = Math.max(longest, (int) matcher.group().lines().count());
        }
        return longest;
    }
}
