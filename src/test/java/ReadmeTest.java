import java.io.IOException;
import java.lang.reflect.Method;
import java.lang.reflect.Modifier;
import java.nio.file.Files;
import java.nio.file.Path;
import java.util.regex.Matcher;
import java.util.regex.Pattern;

/** README.md tells of every call, and the calls of its example answer what stands behind them. */
public final class ReadmeTest {
    private static final Check CHECK = new Check("ReadmeTest");
    private static final Pattern EXAMPLE = Pattern.compile("(?s)```java\n(.*?)```");
    private static final Pattern LINE = Pattern.compile("x\\.(\\w+\\([^)]*\\));\\s*// (-?\\d+)\\b.*");
    private static final String FIRST_LINE = "HiringFairs x = new HiringFairs();";

    public static void main(String[] args) throws IOException {
        Path root = Path.of(System.getProperty("project.root", "."));
        String readme = Files.readString(root.resolve("README.md"));
        everyCall(readme);
        example(readme);
        CHECK.holds("how the tests are run", readme.contains("`.ci/run`"));
        CHECK.end();
    }

    private static void everyCall(String readme) {
        for (Method method : HiringFairs.class.getDeclaredMethods()) {
            if (Modifier.isPublic(method.getModifiers())) {
                CHECK.holds("README tells of " + method.getName(), readme.contains("| `" + method.getName() + "("));
            }
        }
    }

    private static void example(String readme) {
        Matcher block = EXAMPLE.matcher(readme);
        if (!block.find()) {
            CHECK.holds("there is an example", false);
            return;
        }
        String[] lines = block.group(1).split("\n");
        CHECK.holds("it begins with " + FIRST_LINE, lines[0].equals(FIRST_LINE));
        StringBuilder run = new StringBuilder();
        for (int i = 1; i < lines.length; i++) {
            Matcher line = LINE.matcher(lines[i]);
            if (!line.matches()) {
                CHECK.holds("a call and its answer: " + lines[i], false);
                return;
            }
            run.append(run.length() == 0 ? "" : "; ").append(line.group(1)).append(" = ").append(line.group(2));
        }
        new Runs(CHECK).sentence("README's example", run.toString());
    }
}
