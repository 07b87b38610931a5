import java.io.IOException;
import java.lang.reflect.Constructor;
import java.lang.reflect.Field;
import java.lang.reflect.Method;
import java.lang.reflect.Modifier;
import java.nio.charset.StandardCharsets;
import java.nio.file.Files;
import java.nio.file.Path;
import java.util.ArrayList;
import java.util.Arrays;
import java.util.List;
import java.util.Set;
import java.util.TreeSet;
import java.util.regex.Matcher;
import java.util.regex.Pattern;

/** The class keeps to LANGUAGE.md, as far as its words and its members tell. */
public final class LanguageTest {
    private static final Path SOURCE = Path.of("src/main/java/FixityRows.java");

    /** The class needs no exception caught, so try and catch stand here too. */
    private static final Set<String> LEFT_OUT = new TreeSet<>(Arrays.asList("import", "package", "try", "catch",
        "finally", "synchronized", "assert", "native", "volatile", "transient", "double", "float", "var", "yield",
        "instanceof", "->", "::", "getMessage", "hashCode", "equals", "toString"));

    private static final Set<String> LIBRARY = new TreeSet<>(Arrays.asList("Math", "ArrayIndexOutOfBoundsException"));
    private static final Set<String> MATH = new TreeSet<>(Arrays.asList("max", "min"));

    private static final int MOST_LINES = 60;
    private static final int MOST_PARAMETERS = 7;
    private static final int MOST_CLASSES = 12;
    private static final int MOST_FIELDS = 20;

    private static int wrong = 0;

    public static void main(String[] args) throws IOException {
        String source = Files.readString(SOURCE, StandardCharsets.US_ASCII);
        String words = withoutTextsAndComments(source);
        lookAtWords(words);
        lookAtNames(words);
        lookAtThrows(words);
        lookAtLengths(source.split("\n"));
        lookAtMembers();
        System.out.println(wrong == 0 ? "the language is kept to" : wrong + " faults in the language");
        if (wrong != 0) {
            System.exit(1);
        }
    }

    private static void fault(String text) {
        wrong++;
        System.out.println(text);
    }

    private static String withoutTextsAndComments(String source) {
        return source.replaceAll("(?s)/\\*.*?\\*/", " ").replaceAll("//[^\n]*", " ").replaceAll("\"[^\"\n]*\"", "\"\"");
    }

    private static void lookAtWords(String words) {
        Matcher each = Pattern.compile("\\w+|->|::").matcher(words);
        while (each.find()) {
            if (LEFT_OUT.contains(each.group())) {
                fault("the class uses " + each.group());
            }
        }
        // A text beside a plus sign would be joined.
        if (Pattern.compile("\"\"\\s*\\+|\\+\\s*\"\"").matcher(words).find()) {
            fault("the class joins texts by +");
        }
    }

    /** Names with a great and a small letter in them are classes here; the library's are few. */
    private static void lookAtNames(String words) {
        Set<String> known = new TreeSet<>(LIBRARY);
        for (Class<?> own : classes()) {
            known.add(own.getSimpleName());
        }
        Matcher each = Pattern.compile("\\b[A-Z]\\w*[a-z]\\w*\\b").matcher(words);
        while (each.find()) {
            if (!known.contains(each.group())) {
                fault("the class uses " + each.group());
            }
        }
        Matcher math = Pattern.compile("\\bMath\\s*\\.\\s*(\\w+)").matcher(words);
        while (math.find()) {
            if (!MATH.contains(math.group(1))) {
                fault("the class uses Math." + math.group(1));
            }
        }
    }

    private static void lookAtThrows(String words) {
        Matcher each = Pattern.compile("\\bthrow\\b[^;]*;").matcher(words);
        int found = 0;
        while (each.find()) {
            found++;
            if (!each.group().equals("throw new ArrayIndexOutOfBoundsException(\"\");")) {
                fault("the class has: " + each.group());
            }
        }
        if (found != 1) {
            fault("the class has " + found + " throw statements, due is the one of at()");
        }
    }

    private static void lookAtLengths(String[] lines) {
        for (int i = 0; i < lines.length; i++) {
            Matcher head = Pattern.compile("( {4}| {8})\\S.*\\).*\\{").matcher(lines[i]);
            if (!head.matches()) {
                continue;
            }
            int end = i;
            while (end < lines.length && !lines[end].equals(head.group(1) + "}")) {
                end++;
            }
            if (end - i + 1 > MOST_LINES) {
                fault("too long: " + lines[i].trim());
            }
        }
    }

    private static List<Class<?>> classes() {
        List<Class<?>> classes = new ArrayList<>(Arrays.asList(FixityRows.class.getDeclaredClasses()));
        classes.add(FixityRows.class);
        return classes;
    }

    private static void lookAtMembers() {
        if (classes().size() > MOST_CLASSES) {
            fault("too many classes: " + classes());
        }
        for (Class<?> own : classes()) {
            int fields = 0;
            for (Field field : own.getDeclaredFields()) {
                boolean isStatic = Modifier.isStatic(field.getModifiers());
                if (isStatic && !Modifier.isFinal(field.getModifiers())) {
                    fault("not final: " + field);
                }
                if (isStatic && field.getType() != int.class && field.getType() != int[].class) {
                    fault("no constant of numbers: " + field);
                }
                fields += isStatic ? 0 : 1;
            }
            if (fields > MOST_FIELDS) {
                fault("too many fields in " + own);
            }
            lookAtParameters(own);
        }
    }

    private static void lookAtParameters(Class<?> own) {
        for (Method method : own.getDeclaredMethods()) {
            if (method.getParameterCount() > MOST_PARAMETERS) {
                fault("too many parameters: " + method);
            }
        }
        for (Constructor<?> constructor : own.getDeclaredConstructors()) {
            if (constructor.getParameterCount() > MOST_PARAMETERS) {
                fault("too many parameters: " + constructor);
            }
        }
    }
}
