import java.io.ByteArrayOutputStream;
import java.io.File;
import java.io.IOException;
import java.io.PrintStream;
import java.lang.reflect.Method;
import java.lang.reflect.Modifier;
import java.nio.charset.StandardCharsets;
import java.nio.file.Files;
import java.nio.file.Path;

/** What README.md shows is so: its example is Example.java, and prints what stands below it. */
public final class ReadmeTest {
    public static void main(String[] args) throws IOException {
        String readme = Files.readString(Path.of("README.md"));
        String example = Files.readString(Path.of("src/test/java/Example.java"));
        String printed = printedByExample();
        Checks checks = new Checks();
        checks.due("the example is Example.java", true,
                () -> readme.contains("```java\n" + example + "```\n"));
        checks.due("below it is what it prints", true,
                () -> readme.contains("```text\n" + printed + "```\n"));
        for (Method call : HouseManner.class.getDeclaredMethods()) {
            if (Modifier.isPublic(call.getModifiers())) {
                checks.due("there is a row for " + call.getName(), true,
                        () -> readme.contains("\n| `" + call.getName() + "("));
            }
        }
        for (String test : new File("src/test/java").list()) {
            if (test.endsWith("Test.java")) {
                checks.due("there is a word on " + test, true,
                        () -> readme.contains("`" + test.replace(".java", "") + "`"));
            }
        }
        checks.end();
    }

    private static String printedByExample() {
        PrintStream before = System.out;
        ByteArrayOutputStream printed = new ByteArrayOutputStream();
        System.setOut(new PrintStream(printed, true, StandardCharsets.UTF_8));
        Example.main(new String[0]);
        System.setOut(before);
        return printed.toString(StandardCharsets.UTF_8).replace(System.lineSeparator(), "\n");
    }
}
