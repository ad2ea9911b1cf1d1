import java.io.IOException;
import java.lang.reflect.Method;
import java.lang.reflect.Modifier;
import java.nio.file.Files;
import java.nio.file.Path;
import java.util.HashMap;
import java.util.Map;
import java.util.regex.Matcher;
import java.util.regex.Pattern;
import java.util.stream.Stream;

/** README.md tells the truth: its example answers what it says, and it names every call and test. */
public final class ReadmeTest {
    private static final Pattern EXAMPLE = Pattern.compile("```java\n(.*?)```", Pattern.DOTALL);
    /** Such as "int one = stairs.open(asks, gives);  // 0: why", or without a name or a why. */
    private static final Pattern ROW =
            Pattern.compile("(?:int (\\w+) = )?stairs\\.(\\w+\\(.*?\\)); +// (-?\\w+)(?::.*)?");

    public static void main(String[] args) throws IOException {
        String text = Files.readString(Path.of("README.md"));
        Matcher example = EXAMPLE.matcher(text);
        expect(example.find(), "there is an example");
        playExample(example.group(1));
        for (Method method : QuietStairs.class.getDeclaredMethods()) {
            boolean isHidden = !Modifier.isPublic(method.getModifiers());
            expect(isHidden || text.contains("| `" + method.getName() + "("), "it names " + method);
        }
        try (Stream<Path> tests = Files.list(Path.of("src/test/java"))) {
            for (Path test : tests.toList()) {
                String name = test.getFileName().toString().replace(".java", "");
                expect(text.contains("| `" + name + "` |"), "it names " + name);
            }
        }
        Script.end();
    }

    private static void playExample(String example) {
        String[] rows = example.split("\n");
        expect(rows[0].equals("QuietStairs stairs = new QuietStairs();"), "its first row");
        Script script = new Script("README.md");
        Map<String, String> names = new HashMap<>();
        for (int i = 1; i < rows.length; i++) {
            Matcher row = ROW.matcher(rows[i]);
            boolean isRow = row.matches();
            expect(isRow, "a row of the example: " + rows[i]);
            if (isRow) {
                String call = row.group(2);
                for (Map.Entry<String, String> name : names.entrySet()) {
                    call = call.replaceAll("\\b" + name.getKey() + "\\b", name.getValue());
                }
                script.play(call + " = " + row.group(3));
                if (row.group(1) != null) {
                    names.put(row.group(1), row.group(3));
                }
            }
        }
    }

    private static void expect(boolean holds, String text) {
        Script.due("README.md", text, holds ? 1 : 0, 1);
    }
}
