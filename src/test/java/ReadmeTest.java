import java.io.ByteArrayOutputStream;
import java.io.PrintStream;
import java.lang.reflect.Method;
import java.lang.reflect.Modifier;
import java.nio.file.Files;
import java.nio.file.Path;

/** README.md tells of every call, and its example is the one that runs, with what it prints. */
public final class ReadmeTest {
    public static void main(String[] args) throws Exception {
        String readme = Files.readString(Path.of("README.md"));
        everyCall(readme);
        example(readme);
        Check.end();
    }

    private static void everyCall(String readme) {
        for (Method method : TastingHouse.class.getDeclaredMethods()) {
            if (Modifier.isPublic(method.getModifiers())) {
                Check.due("a row of " + method.getName(), readme.contains("\n| `" + method.getName() + "("), true);
            }
        }
    }

    private static void example(String readme) throws Exception {
        String source = Files.readString(Path.of("src/test/java/Example.java"));
        Check.due("the example stands as it is", readme.contains("```java\n" + source + "```\n"), true);
        Check.due("what it prints stands as it is", readme.contains("```text\n" + printed() + "```\n"), true);
    }

    private static String printed() {
        PrintStream screen = System.out;
        ByteArrayOutputStream bytes = new ByteArrayOutputStream();
        System.setOut(new PrintStream(bytes, true));
        Example.main(new String[0]);
        System.setOut(screen);
        return bytes.toString().replace(System.lineSeparator(), "\n");
    }
}
