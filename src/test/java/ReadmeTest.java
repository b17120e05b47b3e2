import java.io.IOException;
import java.lang.reflect.Field;
import java.lang.reflect.Method;
import java.lang.reflect.Modifier;
import java.nio.file.DirectoryStream;
import java.nio.file.Files;
import java.nio.file.Path;
import java.util.ArrayList;
import java.util.List;
import java.util.Map;
import java.util.regex.Matcher;
import java.util.regex.Pattern;

/** The calls that README.md shows answer as it says, and it leaves out no call and no test. */
public final class ReadmeTest {
    private static final Pattern BLOCK = Pattern.compile("```java\n(.*?)```", Pattern.DOTALL);
    private static final Pattern CALL =
            Pattern.compile("desk\\.(\\w+\\([^()]*\\)); +// (throws )?([-\\w.]+): \\S.*");
    private static final String NEW_DESK = "RegistryDesk desk = new RegistryDesk();";
    private static final Map<String, String> LETTERS = Map.of("IllegalArgumentException", "IAE",
            "NoSuchElementException", "NSE", "UnsupportedOperationException", "UOE",
            "IllegalStateException", "ISE");

    private ReadmeTest() {
    }

    public static void main(String[] args) throws IOException, IllegalAccessException {
        String readme = Files.readString(Path.of("README.md"));
        Matcher block = BLOCK.matcher(readme);
        StringBuilder shown = new StringBuilder();
        while (block.find()) {
            shown.append(block.group(1));
            Runs.check("README.md", rowsOf(block.group(1)));
        }
        namesEachCall(readme, shown.toString());
        namesEachConstant(readme);
        namesEachTest(readme);
        Runs.end();
    }

    private static String[] rowsOf(String block) {
        String[] lines = block.split("\n");
        due(lines[0].equals(NEW_DESK), "the first line makes a desk: " + lines[0]);
        List<String> rows = new ArrayList<>();
        for (int i = 1; i < lines.length; i++) {
            Matcher call = CALL.matcher(lines[i]);
            boolean fits = call.matches();
            due(fits, "a line is a call with its answer: " + lines[i]);
            if (fits) {
                String answer = call.group(3);
                rows.add(call.group(1) + " -> "
                        + (call.group(2) == null ? answer : LETTERS.get(answer)));
            }
        }
        return rows.toArray(new String[0]);
    }

    private static void namesEachCall(String readme, String shown) {
        for (Method method : RegistryDesk.class.getDeclaredMethods()) {
            if (Modifier.isPublic(method.getModifiers())) {
                String name = method.getName();
                due(shown.contains("desk." + name + "("), name + " is shown");
                due(readme.contains("| `" + name + "("), name + " is in the table");
            }
        }
        for (String exception : LETTERS.keySet()) {
            due(shown.contains("throws " + exception + ":"), exception + " is shown");
        }
    }

    private static void namesEachConstant(String readme) throws IllegalAccessException {
        for (Field field : RegistryDesk.class.getDeclaredFields()) {
            if (Modifier.isPublic(field.getModifiers())) {
                String text = "`" + field.getName() + "` " + field.get(null);
                due(readme.contains(text), text + " is told");
            }
        }
    }

    private static void namesEachTest(String readme) throws IOException {
        try (DirectoryStream<Path> tests =
                Files.newDirectoryStream(Path.of("src/test/java"), "*Test.java")) {
            for (Path test : tests) {
                String name = test.getFileName().toString().replace(".java", "");
                due(readme.contains("  - `" + name + "`: "), name + " is told");
            }
        }
    }

    private static void due(boolean holds, String what) {
        Runs.dueSame("README.md", what, holds ? what : "not so");
    }
}
