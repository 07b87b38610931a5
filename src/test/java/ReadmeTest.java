import java.io.IOException;
import java.lang.reflect.InvocationTargetException;
import java.lang.reflect.Method;
import java.lang.reflect.Modifier;
import java.nio.file.Files;
import java.nio.file.Path;
import java.util.HashMap;
import java.util.List;
import java.util.Map;
import java.util.Set;
import java.util.TreeSet;
import java.util.regex.Matcher;
import java.util.regex.Pattern;

/** What README.md shows is what the class does: its examples are called, line by line. */
public final class ReadmeTest {
    private static final Pattern MADE = Pattern.compile("FixityRows x = new FixityRows\\((-?\\d+)\\);");
    private static final Pattern CALLED = Pattern.compile(
        "(?:int (\\w+) = )?x\\.(\\w+)\\(([^)]*)\\);(?:\\s*// (-?\\w+)(?::.*)?)?");
    private static final Pattern TABLE_ROW = Pattern.compile("\\| `(\\w+)\\(([^)]*)\\)` \\|(.*)\\|(.*)\\|(.*)\\|");

    private static int wrong = 0;
    private static int answers = 0;
    private static FixityRows x;
    private static final Map<String, Integer> VARIABLES = new HashMap<>();
    private static final Set<String> SHOWN = new TreeSet<>();
    private static final Set<String> REFUSED = new TreeSet<>();

    public static void main(String[] args) throws IOException {
        List<String> lines = Files.readAllLines(Path.of("README.md"));
        Map<String, Method> face = face();
        playExamples(lines, face);
        compareTable(lines, face);
        compareNames("the examples show", SHOWN, face.keySet());
        Set<String> refusing = new TreeSet<>(face.keySet());
        refusing.remove("octet");
        refusing.remove("chain");
        compareNames("the examples show wrong inputs of", REFUSED, refusing);
        for (String words : new String[] {"new FixityRows(", "`NONE` is -1", "`RANGE` -2", "`STATE` -3", "`FULL` -4",
            ".ci/run"}) {
            if (!String.join("\n", lines).contains(words)) {
                fault("README.md does not say: " + words);
            }
        }
        System.out.println(answers + " answers of README.md, " + wrong + " faults");
        if (wrong != 0) {
            System.exit(1);
        }
    }

    private static void fault(String text) {
        wrong++;
        System.out.println(text);
    }

    private static Map<String, Method> face() {
        Map<String, Method> face = new HashMap<>();
        for (Method method : FixityRows.class.getDeclaredMethods()) {
            if (Modifier.isPublic(method.getModifiers())) {
                face.put(method.getName(), method);
            }
        }
        return face;
    }

    private static void compareNames(String what, Set<String> found, Set<String> wanted) {
        if (!found.equals(new TreeSet<>(wanted))) {
            fault(what + " " + found + ", due is " + new TreeSet<>(wanted));
        }
    }

    private static void playExamples(List<String> lines, Map<String, Method> face) {
        boolean inside = false;
        for (String line : lines) {
            if (line.startsWith("```")) {
                inside = line.equals("```java");
            } else if (inside && !line.isBlank()) {
                play(line, face);
            }
        }
    }

    private static void play(String line, Map<String, Method> face) {
        Matcher made = MADE.matcher(line);
        if (made.matches()) {
            x = new FixityRows(Integer.parseInt(made.group(1)));
            VARIABLES.clear();
            return;
        }
        Matcher called = CALLED.matcher(line);
        if (x == null || !called.matches() || !face.containsKey(called.group(2))) {
            fault("this line of an example is not understood: " + line);
            return;
        }
        Method method = face.get(called.group(2));
        String got = answer(method, called.group(3));
        String shown = called.group(4);
        SHOWN.add(method.getName());
        answers++;
        if (shown == null) {
            if (method.getReturnType() != void.class) {
                fault("no answer is shown: " + line);
            }
            return;
        }
        String want = numberOf(shown);
        if (!want.equals(got)) {
            fault(line + " answered " + got);
        }
        boolean refusal = !shown.matches("-?\\d+") || method.getName().equals("mend") && shown.equals("-10");
        if (refusal) {
            REFUSED.add(method.getName());
        }
        if (called.group(1) != null && got.matches("-?\\d+")) {
            VARIABLES.put(called.group(1), Integer.valueOf(got));
        }
    }

    private static String numberOf(String shown) {
        switch (shown) {
            case "NONE": return "" + FixityRows.NONE;
            case "RANGE": return "" + FixityRows.RANGE;
            case "STATE": return "" + FixityRows.STATE;
            case "FULL": return "" + FixityRows.FULL;
            default: return shown;
        }
    }

    private static String answer(Method method, String given) {
        String[] parts = given.isBlank() ? new String[0] : given.split(",");
        Object[] numbers = new Object[parts.length];
        for (int i = 0; i < parts.length; i++) {
            String part = parts[i].trim();
            numbers[i] = VARIABLES.containsKey(part) ? VARIABLES.get(part) : Integer.valueOf(part);
        }
        try {
            return String.valueOf(method.invoke(x, numbers));
        } catch (InvocationTargetException e) {
            return e.getCause().getClass().getSimpleName();
        } catch (IllegalAccessException | IllegalArgumentException e) {
            return "not called: " + e.getMessage();
        }
    }

    private static void compareTable(List<String> lines, Map<String, Method> face) {
        Set<String> told = new TreeSet<>();
        for (String line : lines) {
            Matcher row = TABLE_ROW.matcher(line);
            if (!row.matches()) {
                continue;
            }
            String name = row.group(1);
            if (!told.add(name)) {
                fault("the table has two rows of " + name);
            }
            int parameters = row.group(2).isBlank() ? 0 : row.group(2).split(",").length;
            if (face.containsKey(name) && face.get(name).getParameterCount() != parameters) {
                fault("the table gives " + name + " " + parameters + " parameters");
            }
            if (row.group(3).isBlank() || row.group(4).isBlank() || row.group(5).isBlank() && parameters > 0) {
                fault("the table leaves out something of " + name);
            }
        }
        compareNames("the table tells", told, face.keySet());
    }
}
