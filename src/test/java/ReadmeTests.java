import java.io.File;
import java.io.IOException;
import java.lang.reflect.Field;
import java.lang.reflect.Method;
import java.lang.reflect.Modifier;
import java.net.URL;
import java.net.URLClassLoader;
import java.nio.file.Files;
import java.nio.file.Path;
import java.util.ArrayList;
import java.util.List;
import java.util.regex.Matcher;
import java.util.regex.Pattern;
import java.util.stream.Collectors;
import java.util.stream.Stream;
import javax.tools.JavaCompiler;
import javax.tools.ToolProvider;

/** What README.md shows: its program, compiled and run as it stands, its constants, and the tests that it names. */
public final class ReadmeTests {
    private static final Path README = Path.of("README.md");
    private static final Path SHOWN = Path.of("build", "readme");
    private static final Pattern CALL =
            Pattern.compile("(?:(?:int|long) (\\w+) = )?(desk\\.\\w+\\(.*\\)); *// (-?\\d+L?|[A-Z]+)(?:: .*)?");
    private static final Pattern CONSTANT = Pattern.compile("\\| `(\\w+)` *\\| (-?\\d+) *\\|.*");

    private static int passed;
    private static int failed;

    /** The shown program, compiled anew, reports here, too. */
    public static void due(String what, Object got, Object want) {
        if (got.equals(want)) {
            passed++;
        } else {
            failed++;
            System.out.println("README.md: " + what + ": " + got + ", due is " + want);
        }
    }

    public static void main(String[] args) throws Exception {
        List<String> lines = Files.readAllLines(README);
        List<String> code = codeOf(lines);
        everyCallShown(code);
        programHolds(code);
        constantsHold(lines);
        testsNamed(String.join("\n", lines));
        System.out.println(passed + " passed, " + failed + " failed");
        if (failed != 0) {
            System.exit(1);
        }
    }

    private static List<String> codeOf(List<String> lines) {
        List<String> code = new ArrayList<>();
        boolean inside = false;
        for (String line : lines) {
            if (line.startsWith("```")) {
                inside = line.equals("```java");
            } else if (inside && !line.isBlank()) {
                code.add(line);
            }
        }
        return code;
    }

    private static void everyCallShown(List<String> code) {
        String all = String.join("\n", code);
        for (Method m : WallDesk.class.getDeclaredMethods()) {
            if (Modifier.isPublic(m.getModifiers())) {
                due(m.getName() + " is shown", all.contains("desk." + m.getName() + "("), true);
            }
        }
    }

    private static void programHolds(List<String> code) throws Exception {
        StringBuilder program = new StringBuilder("public final class Shown {\n    public static void run() {\n");
        for (String line : code) {
            program.append(line.equals("WallDesk desk = new WallDesk();") ? line : tried(line)).append('\n');
        }
        Files.createDirectories(SHOWN);
        Path source = SHOWN.resolve("Shown.java");
        Files.writeString(source, program.append("    }\n}\n"));
        JavaCompiler compiler = ToolProvider.getSystemJavaCompiler();
        String classes = System.getProperty("java.class.path");
        int refused = compiler.run(null, null, null, "-cp", classes, "-d", SHOWN.toString(), source.toString());
        due("the code compiles", refused, 0);
        if (refused == 0) {
            URL[] where = {SHOWN.toUri().toURL()};
            try (URLClassLoader loader = new URLClassLoader(where)) {
                loader.loadClass("Shown").getMethod("run").invoke(null);
            }
        }
    }

    /** The line, with a test of the answer that it tells. */
    private static String tried(String line) {
        Matcher m = CALL.matcher(line);
        boolean tells = m.matches();
        due("tells a call and its answer: " + line, tells, true);
        if (!tells) {
            return line;
        }
        String name = m.group(1);
        String call = m.group(2);
        String want = Character.isLetter(m.group(3).charAt(0)) ? "WallDesk." + m.group(3) : m.group(3);
        String kept = name == null ? "" : line + "\n";
        String got = name == null ? call : name;
        return kept + "ReadmeTests.due(\"" + call + "\", " + got + ", " + want + ");";
    }

    private static void constantsHold(List<String> lines) throws IllegalAccessException {
        List<String> told = new ArrayList<>();
        for (String line : lines) {
            Matcher m = CONSTANT.matcher(line);
            if (m.matches()) {
                told.add(m.group(1) + " " + m.group(2));
            }
        }
        List<String> there = new ArrayList<>();
        for (Field f : WallDesk.class.getFields()) {
            there.add(f.getName() + " " + f.getInt(null));
        }
        due("the constants", told, there);
    }

    private static void testsNamed(String readme) throws IOException {
        due(".ci/run can be run", readme.contains("\n    .ci/run\n") && new File(".ci/run").canExecute(), true);
        List<String> named = Pattern.compile("`(src/test/java/\\w+\\.java)`").matcher(readme).results()
                .map(r -> r.group(1)).sorted().collect(Collectors.toList());
        try (Stream<Path> files = Files.list(Path.of("src/test/java"))) {
            List<String> there = files.map(p -> p.toString().replace(File.separatorChar, '/')).sorted()
                    .collect(Collectors.toList());
            due("the tests", named, there);
        }
    }
}
