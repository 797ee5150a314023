import java.io.IOException;
import java.lang.reflect.Method;
import java.lang.reflect.Modifier;
import java.net.URL;
import java.net.URLClassLoader;
import java.nio.file.Files;
import java.nio.file.Path;
import java.util.ArrayList;
import java.util.List;
import java.util.regex.Matcher;
import java.util.regex.Pattern;

/**
 * README.md says what is so: each of its examples is compiled as it stands, and each call with
 * an answer behind it ("// 4, ...", "// true: ...", "// throws ...") must answer that.
 */
public final class ReadmeTest {
    private static final Checks checks = new Checks("ReadmeTest");
    private static final Pattern EXAMPLE = Pattern.compile("(?s)```java\n(.*?)```");
    private static final Pattern CALL_WITH_ANSWER =
        Pattern.compile("(x\\.\\w+\\(.*\\));\\s+// (throws \\w+|[\\w.-]+).*");

    private ReadmeTest() {
    }

    private static String program(String name, String example) {
        StringBuilder program = new StringBuilder();
        program.append("public final class ").append(name).append(" {\n")
            .append("public static void run(java.util.List<String> told) {\n");
        for (String line : example.split("\n")) {
            Matcher call = CALL_WITH_ANSWER.matcher(line);
            if (!call.matches()) {
                program.append(line).append('\n');
            } else if (call.group(2).startsWith("throws ")) {
                tell(program, call.group(1), "\"" + call.group(2) + "\"");
            } else {
                tell(program, call.group(1), "\"\" + (" + call.group(2) + ")");
            }
        }
        return program.append("}\n}\n").toString();
    }

    private static void tell(StringBuilder program, String call, String due) {
        program.append("told.add(\"").append(call).append("\"); told.add(").append(due).append(");\n")
            .append("try { told.add(\"\" + ").append(call).append("); } catch (RuntimeException e) {")
            .append(" told.add(\"throws \" + e.getClass().getSimpleName()); }\n");
    }

    private static void runExample(Path folder, String name, String example)
            throws IOException, InterruptedException, ReflectiveOperationException {
        Path file = folder.resolve(name + ".java");
        Files.writeString(file, program(name, example));
        int failed = new ProcessBuilder("javac", "-cp", System.getProperty("java.class.path"),
            "-d", folder.toString(), file.toString()).inheritIO().start().waitFor();
        checks.due(name + " compiles", 0, failed);
        if (failed != 0) {
            return;
        }
        List<String> told = new ArrayList<>();
        try (URLClassLoader loader = new URLClassLoader(new URL[] {folder.toUri().toURL()})) {
            loader.loadClass(name).getMethod("run", List.class).invoke(null, told);
        }
        checks.due(name + " has answers", true, told.size() >= 30);
        for (int k = 0; k + 2 < told.size(); k += 3) {
            checks.text(name + ": " + told.get(k), told.get(k + 1), told.get(k + 2));
        }
    }

    private static void checkTable(String readme) {
        for (Method method : CoverTrees.class.getDeclaredMethods()) {
            if (Modifier.isPublic(method.getModifiers())) {
                checks.due("the table has " + method.getName(), true, readme.contains("\n| `" + method.getName() + "("));
            }
        }
    }

    public static void main(String[] args)
            throws IOException, InterruptedException, ReflectiveOperationException {
        String readme = Files.readString(Path.of("README.md"));
        Path folder = Files.createDirectories(Path.of("build", "readme"));
        Matcher example = EXAMPLE.matcher(readme);
        int examples = 0;
        while (example.find()) {
            examples++;
            runExample(folder, "Example" + examples, example.group(1));
        }
        checks.due("examples", 2, examples);
        checkTable(readme);
        checks.end();
    }
}
