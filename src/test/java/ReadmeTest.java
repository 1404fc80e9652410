import java.io.IOException;
import java.lang.reflect.Method;
import java.lang.reflect.Modifier;
import java.nio.file.Files;
import java.nio.file.Path;
import java.util.ArrayList;
import java.util.Arrays;
import java.util.List;
import java.util.regex.Matcher;
import java.util.regex.Pattern;
import java.util.stream.Stream;

/** README.md holds: its lines of code answer what stands behind them, and it names every call and every test. */
public final class ReadmeTest {
    private static final String MAKES = "DreamShares x = new DreamShares();";
    private static final Pattern TYPES = Pattern.compile("for .* : \"(.*)\"\\.toCharArray\\(\\)\\) x\\.type\\(([01]), c\\);.*");
    private static final Pattern CALL = Pattern.compile("x\\.(\\w+)\\(([-0-9, ]*)\\);");
    /** Such as "// 169, 27: some words". */
    private static final Pattern TOLD = Pattern.compile("// (-?\\d+(?:, -?\\d+)*)(?::.*)?$");
    private static final DreamShares OBJECT = new DreamShares();
    private static int calls = 0;

    public static void main(String[] args) throws IOException {
        String readme = Files.readString(Path.of("README.md"));
        boolean isCode = false;
        for (String line : readme.split("\n")) {
            if (line.startsWith("```")) {
                isCode = line.equals("```java");
            } else if (isCode && !line.equals(MAKES)) {
                runLine(line);
            }
        }
        Due.holds("README.md shows calls, 512 at most: " + calls, calls > 0 && calls <= 512);
        namesEveryCall(readme);
        namesEveryTest(readme);
        Due.end();
    }

    private static void runLine(String line) {
        Matcher types = TYPES.matcher(line);
        if (types.matches()) {
            Due.type(OBJECT, Integer.parseInt(types.group(2)), types.group(1));
            calls += types.group(1).length();
            return;
        }
        Matcher told = TOLD.matcher(line);
        String want = told.find() ? told.group(1) : "nothing";
        String got = String.join(", ", answers(line));
        Due.holds("\"" + line + "\" of README.md; it answered " + got, got.equals(want));
    }

    private static List<String> answers(String line) {
        List<String> all = new ArrayList<>();
        Matcher call = CALL.matcher(line);
        while (call.find()) {
            String[] words = call.group(2).isEmpty() ? new String[0] : call.group(2).split(", ");
            int[] arguments = Arrays.stream(words).mapToInt(Integer::parseInt).toArray();
            all.add("" + Calls.ask(OBJECT, call.group(1), arguments));
            calls++;
        }
        return all;
    }

    private static void namesEveryCall(String readme) {
        for (Method method : DreamShares.class.getDeclaredMethods()) {
            if (Modifier.isPublic(method.getModifiers())) {
                Due.holds("README.md names " + method.getName(), readme.contains("x." + method.getName() + "("));
            }
        }
    }

    private static void namesEveryTest(String readme) throws IOException {
        try (Stream<Path> files = Files.list(Path.of("src/test/java"))) {
            for (Path file : files.toList()) {
                String name = file.getFileName().toString().replace(".java", "");
                Due.holds("README.md names " + name, !name.endsWith("Test") || readme.contains("| " + name + " |"));
            }
        }
    }
}
