import java.io.IOException;
import java.net.URL;
import java.net.URLClassLoader;
import java.nio.file.Files;
import java.nio.file.Path;
import java.util.ArrayList;
import java.util.List;
import java.util.Set;
import java.util.TreeSet;
import java.util.regex.Matcher;
import java.util.regex.Pattern;
import java.util.stream.Stream;
import javax.tools.ToolProvider;

/**
 * What README.md says is so: its example compiles, and each of its calls answers or throws what its comment tells;
 * its table has each call of the face, in order; its tests are those that there are. Run from the project's folder.
 */
public final class ReadmeTest {
    private static final Pattern CALL = Pattern.compile(
            "(?:int (\\w+) = )?(river\\.(\\w+)\\(.*?\\)); +// (answers|throws) ([\\w.]+)(?:[,:;] .*)?");
    private static final Pattern SILENT = Pattern.compile(
            "Towmaster river = new Towmaster\\(\\);|river\\.(reach|lock)\\(.*\\);");
    private static final Pattern IN_TABLE = Pattern.compile("\\| `(\\w+)\\((.*)\\)` \\|.*");
    private static final Pattern OF_THE_FACE = Pattern.compile("    public \\w+ (\\w+)\\((.*)\\).*");
    private static final Pattern TEST_NAMED = Pattern.compile("`(\\w*Test|Check|Scene|Plain)`");

    public static void main(String[] args) throws IOException, ReflectiveOperationException {
        List<String> page = Files.readAllLines(Path.of("README.md"));
        List<String> example = exampleIn(page);
        compare(answersOf(example));
        List<String> face = face();
        Check.due("the table", String.join("\n", matching(IN_TABLE, page)), String.join("\n", face));
        Check.due("the calls of the example", namesOfCalls(example).toString(), namesOf(face).toString());
        tests(page);
        Check.end("ReadmeTest");
    }

    private static List<String> exampleIn(List<String> page) {
        int start = page.indexOf("```java") + 1;
        int end = start;
        while (!page.get(end).equals("```")) {
            end++;
        }
        return page.subList(start, end);
    }

    /** Lets the compiler make a class of the example, in which each call also notes what it answered. */
    private static List<?> answersOf(List<String> example) throws IOException, ReflectiveOperationException {
        Path folder = Files.createTempDirectory("readme");
        Path source = folder.resolve("Example.java");
        Files.writeString(source, writtenOut(example));
        int failed = ToolProvider.getSystemJavaCompiler().run(null, null, null, "-d", folder.toString(),
                "-cp", System.getProperty("java.class.path"), source.toString());
        Check.due("the example compiles", failed, 0);
        try (URLClassLoader loader = new URLClassLoader(new URL[] {folder.toUri().toURL()})) {
            return (List<?>) loader.loadClass("Example").getMethod("told").invoke(null);
        } finally {
            delete(folder);
        }
    }

    private static String writtenOut(List<String> example) {
        StringBuilder text = new StringBuilder("public final class Example {\n"
                + "public static java.util.List<Object[]> told() {\n"
                + "java.util.List<Object[]> told = new java.util.ArrayList<>();\n");
        for (String line : example) {
            text.append(withItsAnswer(line)).append('\n');
        }
        return text.append("return told;\n}\n}\n").toString();
    }

    private static String withItsAnswer(String line) {
        Matcher call = CALL.matcher(line);
        if (!call.matches()) {
            boolean isPlain = line.isEmpty() || line.startsWith("//") || SILENT.matcher(line).matches();
            Check.due("a line without an answer: " + line, isPlain, true);
            return line;
        }
        String what = "\"" + call.group(2) + "\"";
        String due = call.group(5);
        if (call.group(4).equals("throws")) {
            return "try { " + noted(what, call.group(2), "\"" + due + "\"") + " } catch (RuntimeException e) { "
                    + noted(what, "e.getClass().getSimpleName()", "\"" + due + "\"") + " }";
        }
        if (call.group(1) == null) {
            return noted(what, call.group(2), due);
        }
        return "int " + call.group(1) + " = " + call.group(2) + "; " + noted(what, call.group(1), due);
    }

    private static String noted(String what, String got, String due) {
        return "told.add(new Object[] {" + what + ", " + got + ", " + due + "});";
    }

    private static void compare(List<?> told) {
        Check.due("the example tells answers", told.size() > 40, true);
        for (Object each : told) {
            Object[] row = (Object[]) each;
            Check.due(row[0].toString(), row[1].toString(), row[2].toString());
        }
    }

    /** The public methods in their order in the source: each with its arguments' names. */
    private static List<String> face() throws IOException {
        List<String> found = new ArrayList<>();
        for (String line : Files.readAllLines(Path.of("src/main/java/Towmaster.java"))) {
            Matcher method = OF_THE_FACE.matcher(line);
            if (method.matches()) {
                found.add(method.group(1) + "(" + method.group(2).replaceAll("(int|boolean) ", "") + ")");
            }
        }
        Check.due("methods of the face", found.size(), 33);
        return found;
    }

    private static List<String> matching(Pattern wanted, List<String> page) {
        List<String> found = new ArrayList<>();
        for (String line : page) {
            Matcher row = wanted.matcher(line);
            if (row.matches()) {
                found.add(row.group(1) + "(" + row.group(2) + ")");
            }
        }
        return found;
    }

    private static Set<String> namesOfCalls(List<String> example) {
        Set<String> names = new TreeSet<>();
        Matcher call = Pattern.compile("river\\.(\\w+)\\(").matcher(String.join("\n", example));
        while (call.find()) {
            names.add(call.group(1));
        }
        return names;
    }

    private static Set<String> namesOf(List<String> face) {
        Set<String> names = new TreeSet<>();
        for (String method : face) {
            names.add(method.substring(0, method.indexOf('(')));
        }
        return names;
    }

    private static void tests(List<String> page) throws IOException {
        Set<String> named = new TreeSet<>();
        Matcher name = TEST_NAMED.matcher(String.join("\n", page));
        while (name.find()) {
            named.add(name.group(1));
        }
        Set<String> there = new TreeSet<>();
        try (Stream<Path> files = Files.list(Path.of("src/test/java"))) {
            files.forEach(file -> there.add(file.getFileName().toString().replace(".java", "")));
        }
        Check.due("the tests that it names", named.toString(), there.toString());
    }

    private static void delete(Path folder) throws IOException {
        try (Stream<Path> files = Files.list(folder)) {
            for (Path file : files.toList()) {
                Files.delete(file);
            }
        }
        Files.delete(folder);
    }
}
