import java.io.ByteArrayOutputStream;
import java.io.IOException;
import java.io.PrintStream;
import java.io.UncheckedIOException;
import java.lang.reflect.Method;
import java.lang.reflect.Modifier;
import java.nio.charset.StandardCharsets;
import java.nio.file.Files;
import java.nio.file.Path;
import java.util.regex.Pattern;

/** README.md says what is so: its example is the one that runs, and no call is left out. */
public final class ReadmeTest extends Cases {
    public static void main(String[] args) {
        told("README: quotes Example", () -> quotes("java", read("src/test/java/Example.java")));
        told("README: tells what Example prints", () -> quotes("text", printed()));
        told("README: names each call and what it takes", ReadmeTest::namesCalls);
        told("README: says how to run the tests", () -> is(true, read("README.md").contains("    .ci/run\n")));
        told("README: names each test", ReadmeTest::namesTests);
        finish();
    }

    private static String read(String path) {
        try {
            return Files.readString(Path.of(path));
        } catch (IOException e) {
            throw new UncheckedIOException(e);
        }
    }

    private static void quotes(String kind, String text) {
        is(true, read("README.md").contains("```" + kind + "\n" + text + "```\n"));
    }

    private static String printed() {
        PrintStream out = System.out;
        ByteArrayOutputStream said = new ByteArrayOutputStream();
        System.setOut(new PrintStream(said, true, StandardCharsets.UTF_8));
        try {
            Example.main(new String[0]);
        } finally {
            System.setOut(out);
        }
        return said.toString(StandardCharsets.UTF_8).replace(System.lineSeparator(), "\n");
    }

    /** In the table each call stands by its name and as many numbers as it takes. */
    private static void namesCalls() {
        String text = read("README.md");
        for (Method m : AdmissionDesk.class.getDeclaredMethods()) {
            if (Modifier.isPublic(m.getModifiers())) {
                String numbers = "\\w+" + ", \\w+".repeat(Math.max(0, m.getParameterCount() - 1));
                String call = "\\|.*`" + m.getName() + "\\(" + (m.getParameterCount() == 0 ? "" : numbers) + "\\)`.*\\|";
                is(true, Pattern.compile(call).matcher(text).find());
            }
        }
    }

    private static void namesTests() {
        String text = read("README.md");
        for (String name : Path.of("src/test/java").toFile().list()) {
            if (name.endsWith("Test.java")) {
                is(true, text.contains("`" + name.substring(0, name.length() - 5) + "`"));
            }
        }
    }
}
