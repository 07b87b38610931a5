import java.lang.reflect.Constructor;
import java.lang.reflect.Field;
import java.lang.reflect.Method;
import java.lang.reflect.Modifier;
import java.util.Arrays;
import java.util.Set;
import java.util.TreeSet;

/** The class has the document's face, and no other member that can be seen from outside. */
public final class FaceTest {
    private static final Set<String> WANTED = new TreeSet<>(Arrays.asList(
        "public static final int NONE", "public static final int RANGE",
        "public static final int STATE", "public static final int FULL",
        "public FixityRows(int)",
        "public void FixityRows.octet(int)", "public int FixityRows.digest(int)",
        "public int FixityRows.at(int) throws java.lang.ArrayIndexOutOfBoundsException",
        "public int FixityRows.file(int,int)", "public int FixityRows.alter(int,int,int)",
        "public int FixityRows.cut(int,int)", "public int FixityRows.read(int,int)",
        "public int FixityRows.schedule(int,int,int)", "public int FixityRows.due(int)",
        "public int FixityRows.told(int,int)", "public int FixityRows.mend(int,int)",
        "public int FixityRows.about(int,int)", "public int FixityRows.row(int,int)",
        "public int FixityRows.spoil(int,int)", "public int FixityRows.chain()"));

    private static int wrong = 0;

    public static void main(String[] args) {
        compareFace();
        lookAtClasses();
        System.out.println(wrong == 0 ? "the face is as written" : wrong + " faults in the face");
        if (wrong != 0) {
            System.exit(1);
        }
    }

    private static void fault(String text) {
        wrong++;
        System.out.println(text);
    }

    private static void compareFace() {
        Set<String> found = new TreeSet<>();
        for (Field field : FixityRows.class.getDeclaredFields()) {
            if (!Modifier.isPrivate(field.getModifiers())) {
                found.add(Modifier.toString(field.getModifiers()) + " " + field.getType() + " " + field.getName());
            }
        }
        for (Constructor<?> constructor : FixityRows.class.getDeclaredConstructors()) {
            found.add(constructor.toGenericString());
        }
        Set<String> names = new TreeSet<>();
        for (Method method : FixityRows.class.getDeclaredMethods()) {
            if (!Modifier.isPrivate(method.getModifiers())) {
                found.add(method.toGenericString());
                names.add(method.getName());
            }
        }
        if (!found.equals(WANTED)) {
            fault("the face is " + found + ", due is " + WANTED);
        }
        for (Method method : FixityRows.class.getDeclaredMethods()) {
            if (Modifier.isPrivate(method.getModifiers()) && names.contains(method.getName())) {
                fault("a private method bears the public name " + method.getName());
            }
        }
        int modifiers = FixityRows.class.getModifiers();
        if (!Modifier.isPublic(modifiers) || !Modifier.isFinal(modifiers)) {
            fault("the class is not public and final");
        }
    }

    private static void lookAtClasses() {
        for (Class<?> inside : FixityRows.class.getDeclaredClasses()) {
            int modifiers = inside.getModifiers();
            if (!Modifier.isStatic(modifiers) || Modifier.isPublic(modifiers) || Modifier.isProtected(modifiers)) {
                fault("the class " + inside.getName() + " is to be static and hidden");
            }
            for (Field field : inside.getDeclaredFields()) {
                if (Modifier.isStatic(field.getModifiers()) && !Modifier.isFinal(field.getModifiers())) {
                    fault("the static field " + field + " is to be final");
                }
            }
        }
    }
}
