import java.io.IOException;
import java.lang.reflect.Method;
import java.lang.reflect.Modifier;
import java.net.URL;
import java.net.URLClassLoader;
import java.nio.file.Files;
import java.nio.file.Path;
import java.util.ArrayList;
import java.util.Comparator;
import java.util.List;
import java.util.Set;
import java.util.TreeSet;
import java.util.function.BiConsumer;
import java.util.regex.Matcher;
import java.util.regex.Pattern;
import java.util.stream.Stream;
import javax.tools.ToolProvider;

/** What README.md says is true of the class as it stands; run it in the project's directory. */
final class ReadmeTest {
    private static final Pattern BLOCK = Pattern.compile("(?s)```java\n(.*?)```");
    private static final Pattern ANSWERED = Pattern.compile("(\\S.*\\));\\s*// (-?\\d+)(: .*)?");
    private static final Pattern CALL_ROW = Pattern.compile("(?m)^\\| `(\\w+)\\((.*?)\\)` \\| .* \\| ([-0-9, ]*)\\|$");
    private static final Pattern CODE_ROW = Pattern.compile("(?m)^\\| `([A-Z_]+)` \\| (-?\\d+) \\|");
    private static final Pattern TEXT_ROW = Pattern.compile("(?m)^\\| `([0-9 ][0-9:;, ]*)` \\| (-?\\d+) \\|");
    private static final Pattern TEST_NAME = Pattern.compile("`(\\w+Test)`");

    public static void main(String[] args) throws IOException, ReflectiveOperationException {
        String page = Files.readString(Path.of("README.md"));
        examples(page);
        calls(page);
        codes(page);
        texts(page);
        tests(page);
        Check.end();
    }

    // ---- the examples

    private static void examples(String page) throws IOException, ReflectiveOperationException {
        List<String> methods = new ArrayList<>();
        Set<String> shown = new TreeSet<>();
        Matcher block = BLOCK.matcher(page);
        while (block.find()) {
            methods.add(exampleMethod(methods.size(), block.group(1)));
            Matcher call = Pattern.compile("engine\\.(\\w+)\\(").matcher(block.group(1));
            while (call.find()) {
                shown.add(call.group(1));
            }
        }
        Check.holds("each call stands in an example; there are " + shown, shown.equals(names(face())));
        String source = "import java.util.function.BiConsumer;\npublic final class ReadmeExamples {\n"
            + String.join("", methods) + "}\n";
        Path directory = Files.createTempDirectory("readme");
        try {
            runExamples(directory, source, methods.size());
        } finally {
            remove(directory);
        }
    }

    /** Each call with a number behind it hands over its answer and the number; every other line stays as it is. */
    private static String exampleMethod(int number, String block) {
        StringBuilder method = new StringBuilder();
        method.append("public static void example").append(number).append("(BiConsumer<String, long[]> due) {\n");
        for (String line : block.split("\n")) {
            Matcher answered = ANSWERED.matcher(line);
            if (answered.matches()) {
                String call = answered.group(1);
                method.append("due.accept(\"").append(call).append("\", new long[] {").append(call).append(", ");
                method.append(answered.group(2)).append("L});\n");
            } else {
                Check.holds("README.md has an answer behind " + line, !line.startsWith("engine."));
                method.append(line).append('\n');
            }
        }
        return method.append("}\n").toString();
    }

    private static void runExamples(Path directory, String source, int count)
        throws IOException, ReflectiveOperationException {
        Path file = Files.writeString(directory.resolve("ReadmeExamples.java"), source);
        int compiled = ToolProvider.getSystemJavaCompiler().run(null, null, null, "-cp",
            System.getProperty("java.class.path"), "-d", directory.toString(), file.toString());
        Check.due("the examples of README.md compile", compiled, 0);
        if (compiled != 0) {
            return;
        }
        try (URLClassLoader loader = new URLClassLoader(new URL[] {directory.toUri().toURL()})) {
            Class<?> examples = loader.loadClass("ReadmeExamples");
            for (int number = 0; number < count; number++) {
                String where = "README.md, example " + (number + 1) + ": ";
                BiConsumer<String, long[]> due = (call, pair) -> Check.due(where + call, pair[0], pair[1]);
                examples.getMethod("example" + number, BiConsumer.class).invoke(null, due);
            }
        }
    }

    private static void remove(Path directory) throws IOException {
        try (Stream<Path> inside = Files.walk(directory)) {
            for (Path path : inside.sorted(Comparator.reverseOrder()).toList()) {
                Files.delete(path);
            }
        }
    }

    // ---- the tables

    private static List<Method> face() {
        return Stream.of(HornEngine.class.getDeclaredMethods())
            .filter(method -> Modifier.isPublic(method.getModifiers())).toList();
    }

    private static Set<String> names(List<Method> methods) {
        Set<String> names = new TreeSet<>();
        methods.forEach(method -> names.add(method.getName()));
        return names;
    }

    /** The tables name each call once, with as many arguments as it has and with the error codes it can return. */
    private static void calls(String page) {
        List<String> written = new ArrayList<>();
        Matcher row = CALL_ROW.matcher(page);
        while (row.find()) {
            int arguments = row.group(2).isEmpty() ? 0 : row.group(2).split(",").length;
            written.add(row.group(1) + " " + arguments);
            Check.holds("the errors of " + row.group(1) + " are " + row.group(3),
                row.group(3).trim().equals(errorsOf(row.group(1))));
        }
        List<String> due = new ArrayList<>();
        face().forEach(method -> due.add(method.getName() + " " + method.getParameterCount()));
        written.sort(null);
        due.sort(null);
        Check.holds("the tables of calls have " + written + ", due is " + due, written.equals(due));
    }

    /** The codes of the document, promise by promise. */
    private static String errorsOf(String call) {
        return switch (call) {
            case "addRule", "append" -> "-2, -4";
            case "level", "reason", "necessary", "explanation" -> "-2, -3";
            case "undo" -> "-5";
            case "rules", "model", "modelShareBits", "cyclicAtoms", "clearText", "parse", "digest" -> "";
            default -> "-2";
        };
    }

    private static void codes(String page) throws ReflectiveOperationException {
        int found = 0;
        Matcher row = CODE_ROW.matcher(page);
        while (row.find()) {
            found++;
            Check.due("README.md: " + row.group(1), Integer.parseInt(row.group(2)),
                HornEngine.class.getField(row.group(1)).getInt(null));
        }
        Check.due("error codes in README.md", found, 4);
    }

    private static void texts(String page) {
        int found = 0;
        Matcher row = TEXT_ROW.matcher(page);
        while (row.find()) {
            found++;
            Check.due("README.md: parse() of \"" + row.group(1) + "\"",
                Texts.parse(new HornEngine(), row.group(1)), Integer.parseInt(row.group(2)));
        }
        Check.due("texts in README.md", found, 10);
    }

    private static void tests(String page) throws IOException {
        Set<String> written = new TreeSet<>();
        Matcher name = TEST_NAME.matcher(page);
        while (name.find()) {
            written.add(name.group(1));
        }
        Set<String> there = new TreeSet<>();
        try (Stream<Path> files = Files.list(Path.of("src/test/java"))) {
            files.map(file -> file.getFileName().toString()).filter(file -> file.endsWith("Test.java"))
                .forEach(file -> there.add(file.replace(".java", "")));
        }
        Check.holds("README.md names the tests " + written + ", there are " + there, written.equals(there));
    }
}
