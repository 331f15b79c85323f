import java.lang.reflect.Constructor;
import java.lang.reflect.Field;
import java.lang.reflect.Method;
import java.lang.reflect.Modifier;
import java.nio.file.Files;
import java.nio.file.Path;
import java.util.Set;
import java.util.TreeSet;
import java.util.regex.Matcher;
import java.util.regex.Pattern;

/** The face of the class is the document's and nothing else, and its file keeps to what a look can tell of LANGUAGE.md. */
public final class FaceTest {
    static final String[] FACE = {
        "write 1", "wipe 0", "fault 0", "lay 0", "place 1", "drum 3", "kind 1", "traveller 2", "route 4", "truth 2",
        "pass 1", "rain 1", "retune 3", "give 2", "send 2", "undo 0", "arrives 1", "loses 1", "led 3", "fastest 1",
        "tune 1", "meet 2", "clash 3", "right 2", "hear 2", "forget 0", "which 0", "seen 3", "rains 4", "year 3",
        "keep 0", "back 0", "count 1"};
    private static final String[] NOT_IN_THE_LANGUAGE = {
        "import ", "->", "::", "synchronized", "assert ", "finally", "try ", "catch ", "throw ", "lambda", "package ",
        "equals(Object", "hashCode", "toString", "System.out", "System.nano", "System.current", "Random"};

    /** As the document tells it: what the interface says ahead of which calls. */
    static final String[] PARTS = {
        "---- forests: write wipe fault lay place drum kind traveller route truth",
        "---- hours: pass rain retune give send undo",
        "---- what comes: arrives loses led fastest tune meet clash right",
        "---- what was heard: hear forget which seen",
        "---- rain, years: rains year keep back count"};

    private static final Checks CHECKS = new Checks();

    public static void main(String[] args) throws Exception {
        face();
        constants();
        classesInside();
        source();
        partsOfTheInterface();
        CHECKS.end();
    }

    private static void face() {
        CHECKS.due("final", Modifier.isFinal(DrumMaps.class.getModifiers()) ? 1 : 0, 1);
        Set<String> due = new TreeSet<>(Set.of(FACE));
        Set<String> open = new TreeSet<>();
        Set<String> hidden = new TreeSet<>();
        for (Method m : DrumMaps.class.getDeclaredMethods()) {
            if (Modifier.isPrivate(m.getModifiers()) || m.isSynthetic()) {
                hidden.add(m.getName());
                continue;
            }
            boolean ints = m.getReturnType() == int.class;
            for (Class<?> c : m.getParameterTypes()) ints &= c == int.class;
            boolean plain = ints && m.getModifiers() == Modifier.PUBLIC && m.getExceptionTypes().length == 0;
            open.add(m.getName() + " " + m.getParameterCount() + (plain ? "" : " not plain"));
        }
        CHECKS.due("methods " + open, open.equals(due) ? 1 : 0, 1);
        for (String name : FACE) {
            CHECKS.due("private " + name, hidden.contains(name.split(" ")[0]) ? 1 : 0, 0);
        }
        Constructor<?>[] made = DrumMaps.class.getDeclaredConstructors();
        CHECKS.due("constructors", made.length, 1);
        CHECKS.due("its parameters", made[0].getParameterCount(), 0);
        CHECKS.due("public", made[0].getModifiers(), Modifier.PUBLIC);
    }

    private static void constants() throws Exception {
        CHECKS.due("BAD", DrumMaps.BAD, -1);
        CHECKS.due("NO", DrumMaps.NO, -2);
        CHECKS.due("FULL", DrumMaps.FULL, -3);
        CHECKS.due("NONE", DrumMaps.NONE, -4);
        int open = 0;
        for (Field f : DrumMaps.class.getDeclaredFields()) {
            int m = f.getModifiers();
            if (!Modifier.isPrivate(m)) open++;
            if (Modifier.isStatic(m)) CHECKS.due("final " + f.getName(), Modifier.isFinal(m) ? 1 : 0, 1);
        }
        CHECKS.due("fields that are seen", open, 4);
    }

    private static void classesInside() {
        Class<?>[] inside = DrumMaps.class.getDeclaredClasses();
        CHECKS.due("some twelve classes", inside.length < 12 ? 1 : 0, 1);
        for (Class<?> c : inside) {
            CHECKS.due("static " + c, Modifier.isStatic(c.getModifiers()) ? 1 : 0, 1);
            CHECKS.due("seen " + c, c.getModifiers() & (Modifier.PUBLIC | Modifier.PROTECTED), 0);
            for (Method m : c.getDeclaredMethods()) {
                boolean borrowed = false;
                for (String name : FACE) borrowed |= m.getName().equals(name.split(" ")[0]);
                CHECKS.due("a name of the face: " + m, borrowed ? 1 : 0, 0);
            }
        }
    }

    private static void source() throws Exception {
        String source = Files.readString(Path.of("src/main/java/DrumMaps.java"));
        for (String word : NOT_IN_THE_LANGUAGE) {
            CHECKS.due("\"" + word + "\" in the file", source.contains(word) ? 1 : 0, 0);
        }
        int made = 0;
        for (Matcher m = Pattern.compile("\\bnew (\\w+)").matcher(source); m.find(); ) {
            made++;
            boolean known = Set.of("Text", "Reader", "Land", "Forest", "Shelf", "Row", "Traveller", "Ways", "int").contains(m.group(1));
            CHECKS.due("new " + m.group(1), known ? 1 : 0, 1);
        }
        CHECKS.due("makes something", made > 0 ? 1 : 0, 1);
        methodsStayShort(source.split("\n"));
    }

    private static void partsOfTheInterface() throws Exception {
        String source = Files.readString(Path.of("src/main/java/DrumMaps.java"));
        int at = source.indexOf("public DrumMaps()");
        for (String part : PARTS) {
            String[] said = part.split(": ");
            int next = source.indexOf("// " + said[0] + "\n", at);
            CHECKS.due(said[0], next > at ? 1 : 0, 1);
            for (String name : said[1].split(" ")) {
                at = next;
                next = source.indexOf("public int " + name + "(", at);
                CHECKS.due(name + " behind " + said[0], next > at ? 1 : 0, 1);
            }
            at = next;
        }
    }

    private static void methodsStayShort(String[] lines) {
        String indent = "    ";
        int start = -1;
        int methods = 0;
        for (int i = 0; i < lines.length; i++) {
            String line = lines[i];
            if (line.matches("    private static final class .*\\{")) {
                indent = "        ";
            } else if (line.equals("    }") && indent.length() == 8) {
                indent = "    ";
            } else if (line.matches(indent + "\\w.*\\) \\{")) {
                start = i;
            } else if (line.equals(indent + "}") && start >= 0) {
                methods++;
                CHECKS.due("lines of " + lines[start], i - start > 60 ? i - start : 0, 0);
                start = -1;
            }
        }
        CHECKS.due("methods looked at", methods > 80 ? 1 : 0, 1);
    }
}
