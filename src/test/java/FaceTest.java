import java.io.IOException;
import java.lang.reflect.Constructor;
import java.lang.reflect.Field;
import java.lang.reflect.Method;
import java.lang.reflect.Modifier;
import java.nio.file.Files;
import java.nio.file.Path;
import java.util.Set;
import java.util.TreeSet;
import java.util.regex.Matcher;
import java.util.regex.Pattern;

/** The public face as the document prints it, and the rules of LANGUAGE.md that can be read off the file. */
public final class FaceTest {
    private static final String[] FACE = {"type II", "wipe I", "undo I", "fault I", "member II", "recipe II", "supper II",
        "set II", "pay II", "dreamt II", "read I", "chance III long", "worth IIII", "made IIIII", "mean II long",
        "share II long", "leave ", "strike II long", "best I", "menu II", "menuMean II long", "dread II long", "rows IIII",
        "may IIIII", "likeliest IIIII", "kept IIII", "week III", "sheet III", "lose I", "put IIII", "get III",
        "copy IIIII", "write II", "count I", "digest  long"};
    private static final String[] FORBIDDEN = {"throw", "throws", "try", "catch", "finally", "synchronized", "assert",
        "import", "package", "protected", "new Thread", "System.out", "System.nano", "System.current", "Random", "Exact",
        "hashCode", "toString", "->", "::", "volatile", "transient", "native"};
    private static final Set<String> LIBRARY = Set.of("Integer.bitCount", "Math.abs", "Math.max", "System.arraycopy");

    public static void main(String[] args) throws IOException {
        constants();
        methods();
        nestedClasses();
        words();
        library();
        lengths();
        Due.end();
    }

    private static void constants() {
        Due.same("NONE", DreamShares.NONE, -1);
        Due.same("BAD", DreamShares.BAD, -2);
        Due.same("NOT", DreamShares.NOT, -3);
        Due.same("FULL", DreamShares.FULL, -4);
        int seen = 0;
        for (Field field : DreamShares.class.getDeclaredFields()) {
            boolean isConstant = Set.of("NONE", "BAD", "NOT", "FULL").contains(field.getName());
            int wanted = Modifier.PUBLIC | Modifier.STATIC | Modifier.FINAL;
            Due.holds("face of " + field.getName(), isConstant
                ? field.getModifiers() == wanted && field.getType() == int.class
                : Modifier.isPrivate(field.getModifiers()));
            seen += isConstant ? 1 : 0;
        }
        Due.same("constants", seen, 4);
    }

    private static void methods() {
        Set<String> due = new TreeSet<>();
        for (String line : FACE) {
            due.add(line.endsWith("long") ? line : line + " int");
        }
        Set<String> there = new TreeSet<>();
        for (Method method : DreamShares.class.getDeclaredMethods()) {
            if (!Modifier.isPrivate(method.getModifiers())) {
                Due.same("modifiers of " + method.getName(), method.getModifiers(), Modifier.PUBLIC);
                there.add(method.getName() + " " + "I".repeat(method.getParameterCount()) + " " + method.getReturnType());
                for (Class<?> type : method.getParameterTypes()) {
                    Due.holds("ints for " + method.getName(), type == int.class);
                }
            }
        }
        Due.holds("the face is " + there, there.equals(due));
        Constructor<?>[] constructors = DreamShares.class.getDeclaredConstructors();
        Due.same("constructors", constructors.length, 1);
        Due.same("public constructor", constructors[0].getModifiers(), Modifier.PUBLIC);
        Due.same("its parameters", constructors[0].getParameterCount(), 0);
        Due.same("class", DreamShares.class.getModifiers(), Modifier.PUBLIC | Modifier.FINAL);
    }

    private static void nestedClasses() {
        Set<String> names = new TreeSet<>();
        for (String line : FACE) {
            names.add(line.substring(0, line.indexOf(' ')));
        }
        Due.holds("at most twelve classes", DreamShares.class.getDeclaredClasses().length < 12);
        for (Class<?> inside : DreamShares.class.getDeclaredClasses()) {
            Due.holds(inside + " is static", Modifier.isStatic(inside.getModifiers()));
            for (Method method : inside.getDeclaredMethods()) {
                Due.holds(method + " has a name of its own", !names.contains(method.getName()));
                Due.holds(method + " takes seven at most", method.getParameterCount() <= 7);
            }
        }
        for (Method method : DreamShares.class.getDeclaredMethods()) {
            boolean isPrivate = Modifier.isPrivate(method.getModifiers());
            Due.holds(method + " has a name of its own", !isPrivate || !names.contains(method.getName()));
            Due.holds(method + " takes seven at most", method.getParameterCount() <= 7);
        }
    }

    private static String source() throws IOException {
        return Files.readString(Path.of("src/main/java/DreamShares.java"));
    }

    private static void words() throws IOException {
        String source = source();
        for (String word : FORBIDDEN) {
            boolean isWord = Character.isLetter(word.charAt(0));
            Matcher found = Pattern.compile(isWord ? "\\b" + word : Pattern.quote(word)).matcher(source);
            Due.holds("no " + word + " in the file", !found.find());
        }
        Due.holds("plain signs alone", source.chars().allMatch(c -> c < 128));
    }

    /** Rule 4: of the library nothing but what it lists, as far as the class uses it; a constant of Long is not listed. */
    private static void library() throws IOException {
        Matcher used = Pattern.compile("\\b(Integer|Long|Math|System|Arrays|String|Character|Short|Byte)\\b(\\.\\w+)?")
            .matcher(source());
        while (used.find()) {
            Due.holds(used.group() + " stands in rule 4", LIBRARY.contains(used.group()));
        }
    }

    /** A method goes from its line, indented by 4 or 8, to the brace with the same indent. */
    private static void lengths() throws IOException {
        String[] lines = source().split("\n");
        for (int i = 0; i < lines.length; i++) {
            Due.holds("line " + (i + 1) + " is not too long", lines[i].length() <= 125);
            if (lines[i].matches("( {4}| {8})[a-z].*\\) \\{") && !lines[i].contains(" class ")) {
                String end = lines[i].replaceAll("\\S.*", "") + "}";
                int last = i;
                while (last < lines.length - 1 && !lines[last].equals(end)) {
                    last++;
                }
                Due.holds("sixty lines at most from line " + (i + 1), last - i < 60);
            }
        }
    }
}
