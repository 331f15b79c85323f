import java.io.IOException;
import java.net.URL;
import java.net.URLClassLoader;
import java.nio.file.Files;
import java.nio.file.Path;
import java.util.ArrayList;
import java.util.Comparator;
import java.util.List;
import java.util.regex.Matcher;
import java.util.regex.Pattern;
import java.util.stream.Stream;
import javax.tools.ToolProvider;

/** README.md says what is so: its lines of Java answer as told there, its tables hold the calls, its tests are run. */
public final class ReadmeTest {
    private static final Pattern ANSWERED =
            Pattern.compile("(maps\\.(\\w+)\\([^()]*\\));\\s+// (-?\\d+|BAD|NO|FULL|NONE)\\b.*");
    private static final Pattern ROW = Pattern.compile("\\| `(\\w+)\\((.*?)\\)` \\|.*\\|");
    private static final Pattern TEST = Pattern.compile("- `(\\w+)`: .*");
    private static final Checks C = new Checks();

    public static void main(String[] args) throws Exception {
        String page = Files.readString(Path.of("README.md"));
        linesOfJava(between(page, "```java\n", "```"));
        callsInTables(between(page, "### The calls\n", "## How it is built\n").split("\n"));
        testsAreRun(page.split("## How to run its tests\n")[1].split("\n"));
        C.end();
    }

    private static String between(String page, String from, String to) {
        int start = page.indexOf(from) + from.length();
        return page.substring(start, page.indexOf(to, start));
    }

    /** The lines as they stand, in a class of their own; where an answer is told, it is held against the call's. */
    private static void linesOfJava(String lines) throws Exception {
        StringBuilder program = new StringBuilder("public class Page { public static int[] wrong() { int asked = 0, wrong = 0;\n");
        int told = 0;
        for (String line : lines.split("\n")) {
            Matcher m = ANSWERED.matcher(line);
            if (!m.matches()) {
                program.append(line).append('\n');
                continue;
            }
            told++;
            String due = m.group(3).matches("[A-Z]+") ? "DrumMaps." + m.group(3) : m.group(3);
            program.append("asked++; { int got = ").append(m.group(1)).append("; if (got != ").append(due).append(") { wrong++; ")
                    .append("System.out.println(\"README.md: ").append(m.group(1)).append(" answered \" + got); } }\n");
        }
        int[] answers = run(program.append("return new int[] {asked, wrong}; } }\n").toString());
        C.due("answers told in README.md", answers[0], told);
        C.due("lines with an answer", told > 15 ? 1 : 0, 1);
        C.due("answers of README.md that are not so", answers[1], 0);
    }

    private static int[] run(String program) throws Exception {
        Path folder = Files.createTempDirectory("page");
        try {
            Path file = Files.writeString(folder.resolve("Page.java"), program);
            int failed = ToolProvider.getSystemJavaCompiler().run(null, null, null, "-proc:none", "-cp",
                    System.getProperty("java.class.path"), "-d", folder.toString(), file.toString());
            if (failed != 0) throw new IllegalStateException("README.md's Java does not compile");
            try (URLClassLoader made = new URLClassLoader(new URL[] {folder.toUri().toURL()})) {
                return (int[]) made.loadClass("Page").getMethod("wrong").invoke(null);
            }
        } finally {
            remove(folder);
        }
    }

    private static void remove(Path folder) throws IOException {
        try (Stream<Path> files = Files.walk(folder)) {
            for (Path file : files.sorted(Comparator.reverseOrder()).toList()) Files.delete(file);
        }
    }

    private static void callsInTables(String[] lines) {
        List<String> calls = new ArrayList<>();
        List<String> parts = new ArrayList<>();
        for (String line : lines) {
            Matcher m = ROW.matcher(line);
            if (m.matches()) calls.add(m.group(1) + " " + (m.group(2).isEmpty() ? 0 : m.group(2).split(", ").length));
            if (line.endsWith(" | answers |")) parts.add("---- " + line.substring(2, line.indexOf(" | answers |")));
        }
        C.due("the calls in README.md are the face's: " + calls, calls.equals(List.of(FaceTest.FACE)) ? 1 : 0, 1);
        C.due("parts", parts.size(), FaceTest.PARTS.length);
        for (int i = 0; i < parts.size(); i++) {
            C.due(parts.get(i), FaceTest.PARTS[i].startsWith(parts.get(i) + ":") ? 1 : 0, 1);
        }
    }

    private static void testsAreRun(String[] lines) throws IOException {
        String script = Files.readString(Path.of(".ci/run"));
        List<String> run = List.of(between(script, "tests=\"", "\"").split(" "));
        List<String> told = new ArrayList<>();
        for (String line : lines) {
            Matcher m = TEST.matcher(line);
            if (m.matches()) told.add(m.group(1));
        }
        C.due("tests told in README.md " + told, told.containsAll(run) && run.containsAll(told) ? 1 : 0, 1);
    }
}
