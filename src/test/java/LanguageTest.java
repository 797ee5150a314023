import java.io.IOException;
import java.lang.reflect.Field;
import java.lang.reflect.Method;
import java.lang.reflect.Modifier;
import java.nio.file.Files;
import java.nio.file.Path;
import java.util.ArrayList;
import java.util.List;
import java.util.regex.Matcher;
import java.util.regex.Pattern;

/** The rules of ../shared/LANGUAGE.md that can be seen in the text of the program. */
public final class LanguageTest {
    private static final Checks checks = new Checks("LanguageTest");

    private static final String[] NOT_ALLOWED = {
        "\\bpackage\\b", "\\bimport\\b", "\\bsynchronized\\b", "\\bassert\\b", "\\bfinally\\b",
        "->", "::", "\\bstatic\\s*\\{", "\\bprotected\\b", "\\bnative\\b", "\\bvolatile\\b",
        "\\bthrow (?!new \\w+\\(\"[^\"]*\"\\);)", "\"\\s*\\+", "\\+\\s*\"", "\\bgetMessage\\b",
        "\\bequals\\(", "\\bhashCode\\b", "\\btoString\\b", "\\binstanceof\\b",
        "Math\\.\\w+Exact", "\\bfloat\\b", "\\bdouble\\b", "\\bvar\\b", "\\bwhile\\s*\\(\\s*true",
        "\\bSystem\\.(?!arraycopy\\b)", "\\bextends\\b",
    };

    private static final Pattern MAKES = Pattern.compile("\\bnew\\b|\\.clone\\(|\\bArrays\\.|= \\{");
    private static final Pattern THROWS = Pattern.compile("\\bthrow new\\b");
    private static final Pattern KEEPS =
        Pattern.compile("^\\s+(private final \\S+ )?(\\w+) = new [\\w\\[\\]()]+;$");
    private static final Pattern OF_CONSTRUCTOR = Pattern.compile("^        (net|target|tree|graph) = new .*");
    private static final Pattern HEAD = Pattern.compile("^((?: {4}){1,2})[A-Za-z].*\\(.*\\)(?: throws .*)?(?: \\{)?$");
    private static final Pattern COUNTED =
        Pattern.compile("\\s*for \\(int (\\w+) = [^;]+; \\1 (<|>|>=) [^;]+; \\1(\\+\\+|--)\\) \\{");

    private static String withoutComments(String text) {
        return text.replaceAll("(?s)/\\*.*?\\*/", "").replaceAll("//[^\n]*", "");
    }

    private static boolean plainSigns(String text) {
        for (int k = 0; k < text.length(); k++) {
            char sign = text.charAt(k);
            if (sign != '\n' && (sign < 32 || sign > 126)) {
                return false;
            }
        }
        return true;
    }

    /** No call makes anything but exceptions, so that the room of a run is its objects' own. */
    private static void checkWhatIsMade(List<String> lines) {
        for (String line : lines) {
            if (MAKES.matcher(line).find() && !THROWS.matcher(line).find()) {
                boolean ofField = KEEPS.matcher(line).matches() && line.contains("private final");
                checks.due("made in a constructor: " + line, true,
                    ofField || OF_CONSTRUCTOR.matcher(line).matches());
            }
        }
    }

    private static List<Class<?>> classes() {
        List<Class<?>> classes = new ArrayList<>(List.of(CoverTrees.class.getDeclaredClasses()));
        classes.add(CoverTrees.class);
        return classes;
    }

    /** Rule 11, and rule 5 of what is static. */
    private static void checkSizes() {
        checks.due("some twelve classes", true, classes().size() <= 12);
        for (Class<?> c : classes()) {
            int fields = 0;
            for (Field field : c.getDeclaredFields()) {
                boolean isStatic = Modifier.isStatic(field.getModifiers());
                fields += isStatic ? 0 : 1;
                checks.due("final where it is static: " + field, true,
                    !isStatic || Modifier.isFinal(field.getModifiers()));
            }
            checks.due("some twenty fields: " + c, true, fields <= 20);
            for (Method method : c.getDeclaredMethods()) {
                checks.due("seven parameters: " + method, true, method.getParameterCount() <= 7);
            }
        }
    }

    /** Rule 11: a method ends at the next line that is as far in as its first and closes. */
    private static void checkLengths(List<String> lines) {
        for (int k = 0; k < lines.size(); k++) {
            Matcher head = HEAD.matcher(lines.get(k));
            if (head.find()) {
                int end = k;
                while (end < lines.size() && !lines.get(end).equals(head.group(1) + "}")) {
                    end++;
                }
                checks.due("some sixty lines: " + lines.get(k).trim(), true, end - k < 60);
            }
        }
    }

    /** Rule 9: a loop has a counter against a bound in its own line. */
    private static void checkLoops(List<String> lines) {
        for (String line : lines) {
            checks.due("a counted loop: " + line.trim(), false, line.matches("\\s*(while|do)\\b.*"));
            checks.due("a counted loop: " + line.trim(), true,
                !line.matches("\\s*for\\b.*") || COUNTED.matcher(line).matches());
        }
    }

    public static void main(String[] args) throws IOException {
        Path program = Path.of("src/main/java/CoverTrees.java");
        String text = withoutComments(Files.readString(program));
        for (String rule : NOT_ALLOWED) {
            checks.due("the program has " + rule, false, Pattern.compile(rule).matcher(text).find());
        }
        checks.due("plain signs", true, plainSigns(Files.readString(program)));
        List<String> lines = List.of(text.split("\n"));
        checkWhatIsMade(lines);
        checkLengths(lines);
        checkLoops(lines);
        checkSizes();
        checks.end();
    }
}
