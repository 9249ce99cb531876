import java.io.IOException;
import java.lang.reflect.Method;
import java.lang.reflect.Modifier;
import java.nio.file.Files;
import java.nio.file.Path;
import java.util.regex.Matcher;
import java.util.regex.Pattern;
import java.util.stream.Stream;

/**
 * What README.md shows of the class is so: each call of its examples answers
 * what stands behind it, and its tables name each call and each test. Run from
 * the project's root.
 */
public final class ReadmeTest {
    private static final Pattern EXAMPLE = Pattern.compile("```java\n(.*?)```", Pattern.DOTALL);
    private static final Pattern CALL = Pattern.compile("x\\.(\\w+)\\((.*?)\\); +// (-?\\d+).*");
    private static final Pattern TYPING =
        Pattern.compile("for \\(char sign : \"(.*)\"\\.toCharArray\\(\\)\\) x\\.type\\(sign\\);");

    private final Due due = new Due();
    private CaughtPellets x = new CaughtPellets();

    private ReadmeTest() {
    }

    public static void main(String[] args) throws IOException, ReflectiveOperationException {
        ReadmeTest test = new ReadmeTest();
        String readme = Files.readString(Path.of("README.md"));
        Matcher example = EXAMPLE.matcher(readme);
        while (example.find()) {
            for (String line : example.group(1).split("\n")) {
                test.run(line.strip());
            }
        }
        test.everyCallIsNamed(readme);
        test.everyTestIsNamed(readme);
        test.due.end();
    }

    private void run(String line) throws ReflectiveOperationException {
        Matcher call = CALL.matcher(line);
        Matcher typing = TYPING.matcher(line);
        if (line.equals("CaughtPellets x = new CaughtPellets();")) {
            x = new CaughtPellets();
        } else if (typing.matches()) {
            Told.write(x, typing.group(1));
        } else if (call.matches()) {
            due.is("README.md: " + line, answer(call.group(1), call.group(2)), Integer.parseInt(call.group(3)));
        } else {
            due.is("README.md: the line \"" + line + "\" can be run", line.isEmpty() ? 1 : 0, 1);
        }
    }

    private int answer(String name, String written) throws ReflectiveOperationException {
        String[] values = written.isEmpty() ? new String[0] : written.split(", ");
        for (Method method : CaughtPellets.class.getMethods()) {
            if (method.getName().equals(name) && method.getParameterCount() == values.length) {
                Object[] parameters = new Object[values.length];
                for (int i = 0; i < values.length; i++) {
                    parameters[i] = value(values[i], method.getParameterTypes()[i]);
                }
                return (int) method.invoke(x, parameters);
            }
        }
        throw new NoSuchMethodException(name);
    }

    private static Object value(String written, Class<?> type) {
        if (type == boolean.class) {
            return Boolean.valueOf(written);
        }
        if (type == char.class) {
            return written.charAt(1);
        }
        return Integer.valueOf(written);
    }

    private void everyCallIsNamed(String readme) {
        for (Method method : CaughtPellets.class.getDeclaredMethods()) {
            if (Modifier.isPublic(method.getModifiers())) {
                due.is("README.md tells of " + method.getName(), readme.contains("`" + method.getName() + "(") ? 1 : 0, 1);
            }
        }
    }

    private void everyTestIsNamed(String readme) throws IOException {
        try (Stream<Path> files = Files.list(Path.of("src/test/java"))) {
            for (Path file : files.sorted().toList()) {
                String name = file.getFileName().toString().replace(".java", "");
                due.is("README.md tells of " + name, readme.contains("`" + name + "`") ? 1 : 0, 1);
            }
        }
    }
}
