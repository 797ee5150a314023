import java.io.IOException;
import java.nio.file.Files;
import java.nio.file.Path;
import java.util.List;
import java.util.regex.Pattern;

/** The rules of ../shared/LANGUAGE.md that can be seen in the text of the program. */
public final class LanguageTest {
    private static final Checks checks = new Checks("LanguageTest");

    private static final String[] NOT_ALLOWED = {
        "\\bpackage\\b", "\\bimport\\b", "\\bsynchronized\\b", "\\bassert\\b", "\\bfinally\\b",
        "->", "::", "\\bstatic\\s*\\{", "\\bprotected\\b", "\\bnative\\b", "\\bvolatile\\b",
        "\\bthrow (?!new \\w+\\(\"[^\"]*\"\\);)", "\"\\s*\\+", "\\+\\s*\"", "\\bgetMessage\\b",
        "\\bequals\\(", "\\bhashCode\\b", "\\btoString\\b", "\\binstanceof\\b",
        "Math\\.\\w+Exact", "\\bfloat\\b", "\\bdouble\\b", "\\bvar\\b", "\\bwhile\\s*\\(\\s*true",
        "\\bSystem\\.(?!arraycopy\\b)", "\\bextends\\b",
    };

    private static final Pattern MAKES = Pattern.compile("\\bnew\\b");
    private static final Pattern THROWS = Pattern.compile("\\bthrow new\\b");
    private static final Pattern KEEPS =
        Pattern.compile("^\\s+(private final \\S+ )?(\\w+) = new [\\w\\[\\]()]+;$");
    private static final Pattern OF_CONSTRUCTOR = Pattern.compile("^        (net|target|tree|graph) = new .*");

    private static String withoutComments(String text) {
        return text.replaceAll("(?s)/\\*.*?\\*/", "").replaceAll("//[^\n]*", "");
    }

    private static boolean plainSigns(String text) {
        for (int k = 0; k < text.length(); k++) {
            char sign = text.charAt(k);
            if (sign != '\n' && (sign < 32 || sign > 126)) {
                return false;
            }
        }
        return true;
    }

    /** No call makes anything but exceptions, so that the room of a run is its objects' own. */
    private static void checkWhatIsMade(List<String> lines) {
        for (String line : lines) {
            if (MAKES.matcher(line).find() && !THROWS.matcher(line).find()) {
                boolean ofField = KEEPS.matcher(line).matches() && line.contains("private final");
                checks.due("made in a constructor: " + line, true,
                    ofField || OF_CONSTRUCTOR.matcher(line).matches());
            }
        }
    }

    public static void main(String[] args) throws IOException {
        Path program = Path.of("src/main/java/CoverTrees.java");
        String text = withoutComments(Files.readString(program));
        for (String rule : NOT_ALLOWED) {
            checks.due("the program has " + rule, false, Pattern.compile(rule).matcher(text).find());
        }
        checks.due("plain signs", true, plainSigns(Files.readString(program)));
        checkWhatIsMade(List.of(text.split("\n")));
        checks.end();
    }
}
