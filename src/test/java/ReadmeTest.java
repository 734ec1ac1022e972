import java.io.ByteArrayOutputStream;
import java.io.IOException;
import java.io.PrintStream;
import java.lang.reflect.Method;
import java.lang.reflect.Modifier;
import java.nio.charset.StandardCharsets;
import java.nio.file.Files;
import java.nio.file.Path;

/** README.md tells the truth: its example is the one that runs, its output is what comes, and it names every call. */
public final class ReadmeTest {
    public static void main(String[] args) throws IOException {
        Check check = new Check();
        String readme = Files.readString(Path.of("README.md"));
        String example = Files.readString(Path.of("src/test/java/Example.java"));
        check.part("README.md");
        check.due("has the example", readme.contains("```java\n" + example + "```"), true);
        check.due("has its output", readme.contains("```text\n" + output() + "```"), true);
        check.due("tells how to run the tests", readme.contains("    .ci/run\n"), true);
        String table = readme.substring(readme.indexOf("### The calls"));
        for (Method call : NightLights.class.getDeclaredMethods()) {
            if (Modifier.isPublic(call.getModifiers())) {
                check.due("names " + call.getName(), table.contains("`" + call.getName() + "("), true);
            }
        }
        check.finish();
    }

    private static String output() {
        PrintStream screen = System.out;
        ByteArrayOutputStream caught = new ByteArrayOutputStream();
        System.setOut(new PrintStream(caught, true, StandardCharsets.UTF_8));
        Example.main(new String[0]);
        System.setOut(screen);
        return caught.toString(StandardCharsets.UTF_8).replace("\r\n", "\n");
    }
}
