import java.io.IOException;
import java.lang.reflect.Field;
import java.lang.reflect.Method;
import java.lang.reflect.Modifier;
import java.nio.file.Files;
import java.nio.file.Path;
import java.util.Arrays;
import java.util.Set;
import java.util.TreeSet;
import java.util.regex.Matcher;
import java.util.regex.Pattern;

/** The face of the class, and those rules of LANGUAGE.md that can be read off the source's words. */
public final class FormTests {
    private static final String[] FACE = {
        "int tick(int)", "int roles(int,int)", "int firm(int)", "int object(int)", "int read(int,int)",
        "int write(int,int)", "int glass(int,int,int)", "int takeOff(int,int)", "int kind()",
        "int task(int,int,int)", "int apart(int,int,int)", "int bound(int,int,int)", "int most(int,int)",
        "int open(int)", "int perform(int,int,int)", "int canEnd(int)", "int doer(int,int)", "int told(int,int)",
        "int glassTold(int,int)", "int entry(int,int)", "long link(int)", "int alter(int,int,int)", "int check()",
        "int count(int)"
    };
    private static final String[] CONSTANTS = {
        "NONE", "BAD", "FULL", "WALL", "LEAK", "NEEDLESS", "RUNS", "OWES", "DONE", "EARLY", "ROLE", "APART", "BOUND",
        "MOST", "STUCK"
    };
    private static final int[] VALUES = {-1, -2, -3, -11, -12, -13, -14, -15, -16, -17, -18, -19, -20, -21, -22};
    private static final String RULED_OUT = "\\b(throw|throws|try|catch|finally|synchronized|assert|import|package"
            + "|float|double|equals|hashCode|toString|volatile|transient|native|var|Random|Thread|Object)\\b|->|::|@";

    private static int passed;
    private static int failed;

    private static void due(String what, Object got, Object want) {
        if (got.equals(want)) {
            passed++;
        } else {
            failed++;
            System.out.println(what + ": " + got + ", due is " + want);
        }
    }

    public static void main(String[] args) throws IOException, IllegalAccessException {
        face();
        constants();
        insides();
        words(Files.readString(Path.of(args[0])));
        System.out.println(passed + " passed, " + failed + " failed");
        if (failed != 0) {
            System.exit(1);
        }
    }

    private static boolean isSeen(int modifiers) {
        return !Modifier.isPrivate(modifiers);
    }

    private static void face() {
        Set<String> seen = new TreeSet<>();
        for (Method m : WallDesk.class.getDeclaredMethods()) {
            if (isSeen(m.getModifiers()) && !m.isSynthetic()) {
                String types = Arrays.toString(m.getParameterTypes()).replaceAll("[\\[\\] ]", "");
                seen.add(m.getReturnType() + " " + m.getName() + "(" + types + ")");
                due(m.getName() + " is public", Modifier.isPublic(m.getModifiers()), true);
                due(m.getName() + " is not static", Modifier.isStatic(m.getModifiers()), false);
            }
        }
        due("methods", seen, new TreeSet<>(Arrays.asList(FACE)));
        due("class", Modifier.toString(WallDesk.class.getModifiers()), "public final");
        due("constructors", WallDesk.class.getDeclaredConstructors().length, 1);
        due("constructor", Modifier.toString(WallDesk.class.getDeclaredConstructors()[0].getModifiers()), "public");
    }

    private static void constants() throws IllegalAccessException {
        Set<String> seen = new TreeSet<>();
        for (Field f : WallDesk.class.getDeclaredFields()) {
            if (isSeen(f.getModifiers())) {
                seen.add(f.getName());
                due(f.getName(), Modifier.toString(f.getModifiers()) + " " + f.getType(), "public static final int");
                int at = Arrays.asList(CONSTANTS).indexOf(f.getName());
                due(f.getName(), f.get(null), at < 0 ? "no such constant" : (Object) VALUES[at]);
            }
        }
        due("constants", seen, new TreeSet<>(Arrays.asList(CONSTANTS)));
    }

    private static void insides() {
        Set<String> publicNames = new TreeSet<>();
        for (String method : FACE) {
            publicNames.add(method.replaceAll(".* |\\(.*", ""));
        }
        for (Class<?> c : WallDesk.class.getDeclaredClasses()) {
            due(c + " is static", Modifier.isStatic(c.getModifiers()), true);
            due(c + " is not public", Modifier.isPublic(c.getModifiers()), false);
            due(c + " has no class inside", c.getDeclaredClasses().length, 0);
            fieldsOf(c);
            for (Method m : c.getDeclaredMethods()) {
                due(m + " has a name of its own", publicNames.contains(m.getName()), false);
                due(m + " has seven parameters at most", m.getParameterCount() <= 7, true);
            }
        }
        due("twelve classes at most", WallDesk.class.getDeclaredClasses().length < 12, true);
        fieldsOf(WallDesk.class);
        for (Method m : WallDesk.class.getDeclaredMethods()) {
            if (!isSeen(m.getModifiers())) {
                due(m + " has a name of its own", publicNames.contains(m.getName()), false);
            }
        }
    }

    private static void fieldsOf(Class<?> c) {
        int own = 0;
        for (Field f : c.getDeclaredFields()) {
            if (Modifier.isStatic(f.getModifiers())) {
                due(f + " is final", Modifier.isFinal(f.getModifiers()), true);
            } else {
                own++;
            }
        }
        due(c + " has twenty fields at most", own <= 20, true);
    }

    private static void words(String source) {
        String code = source.replaceAll("(?s)/\\*.*?\\*/", " ").replaceAll("//[^\n]*", " ");
        Matcher m = Pattern.compile(RULED_OUT).matcher(code);
        while (m.find()) {
            due("ruled out", m.group(), "nothing such");
        }
        Matcher calls = Pattern.compile("\\b(Math|Integer|Long|Arrays|System|String)\\.(\\w+)").matcher(code);
        while (calls.find()) {
            due("library", "max min abs bitCount fill copyOf copyOfRange arraycopy".contains(calls.group(2)), true);
        }
        due("signs", source.chars().allMatch(c -> c == '\n' || c >= ' ' && c < 127), true);
    }
}
