import java.io.IOException;
import java.nio.file.Files;
import java.nio.file.Path;
import java.util.List;

/** Looks in the source for what LANGUAGE.md rules out and a plain search can find. Run from the project's folder. */
public final class SourceTest {
    private static final String[] RULED_OUT = {
        "->", "::", "finally", "synchronized", "assert", "catch", "Exact(", "static {", "extends Exception", "record ",
        "System.", "Random", "Thread", "java.io", "java.time", "Map<", "Set<", "\" +", "+ \"", ".equals(", "hashCode",
        "getMessage", "stream", "String.format", "Integer.MAX", "Integer.MIN", "@SuppressWarnings", "float", "double"};

    public static void main(String[] args) throws IOException {
        Path source = Path.of("src/main/java/Towmaster.java");
        List<String> lines = Files.readAllLines(source);
        for (int k = 0; k < lines.size(); k++) {
            look(k + 1, lines.get(k));
        }
        shortMethods(lines);
        Check.end("SourceTest");
    }

    private static void look(int number, String line) {
        Check.due("line " + number + " starts a package", line.startsWith("package"), false);
        for (String word : RULED_OUT) {
            if (line.contains(word)) {
                Check.fail("line " + number + " has " + word);
            }
        }
        if (line.startsWith("import ")) {
            Check.due("line " + number + " imports what may be", line.equals("import java.util.ArrayList;"), true);
        }
        for (int k = 0; k < line.length(); k++) {
            if (line.charAt(k) > 126) {
                Check.fail("line " + number + " has a sign above 126");
            }
        }
    }

    /** A method ends at a closing brace as far in as its first line. */
    private static void shortMethods(List<String> lines) {
        for (int k = 0; k < lines.size(); k++) {
            String line = lines.get(k);
            boolean opens = line.endsWith("{") && line.contains("(");
            int indent = line.length() - line.stripLeading().length();
            if (!opens || indent > 8) {
                continue;
            }
            int end = k + 1;
            while (end < lines.size() && !lines.get(end).equals(" ".repeat(indent) + "}")) {
                end++;
            }
            Check.due("line " + (k + 1) + " opens more than 60 lines", end - k > 60, false);
        }
    }
}
