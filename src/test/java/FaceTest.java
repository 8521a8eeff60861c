import java.lang.reflect.Field;
import java.lang.reflect.Method;
import java.lang.reflect.Modifier;
import java.util.ArrayList;
import java.util.Arrays;
import java.util.HashSet;
import java.util.List;
import java.util.Set;
import java.util.TreeSet;

/** The public face: what the document lists, and nothing else. */
final class FaceTest {
    private static final String[] FACE = {
        "int append(int, int, int, int, int)",
        "int load(int) IllegalArgumentException",
        "int errorOffset()",
        "int state(int) IllegalArgumentException",
        "int cell(int, int, int) IndexOutOfBoundsException IllegalArgumentException",
        "int mix(int, int) IllegalArgumentException",
        "int count(int) IllegalArgumentException",
        "int unlike()",
        "int region(int, int) IndexOutOfBoundsException",
        "int regions(int) IllegalArgumentException",
        "int bleeds(int, int) IndexOutOfBoundsException",
        "int driesIn()",
        "int foretold(int, int) IllegalArgumentException",
        "int evens(int) IllegalArgumentException",
        "int pattern(int, int) IndexOutOfBoundsException IllegalArgumentException",
        "float covered()",
        "int pass(int) IllegalArgumentException",
        "int paint(int, int, int, int, boolean) IndexOutOfBoundsException IllegalArgumentException",
        "int stroke(int, int, int, int, int) IndexOutOfBoundsException IllegalArgumentException",
        "int stamp(int, int, int, boolean) IndexOutOfBoundsException",
        "int spar(int, int, boolean, int) IndexOutOfBoundsException IllegalArgumentException",
        "int strip(int, int) IndexOutOfBoundsException IllegalStateException",
        "int wash(int, int) IndexOutOfBoundsException IllegalStateException",
        "int undo()",
        "long checksum()",
    };

    private FaceTest() {
    }

    public static void main(String[] args) {
        constants();
        methods();
        hidden();
        Check.end("FaceTest");
    }

    private static void constants() {
        Check.due("SYNTAX_ERROR", KitePainter.SYNTAX_ERROR, -2);
        Check.due("OUT_OF_RANGE", KitePainter.OUT_OF_RANGE, -3);
        Check.due("REPEATED", KitePainter.REPEATED, -4);
        Check.due("TOO_MANY", KitePainter.TOO_MANY, -5);
        Check.due("public fields", KitePainter.class.getFields().length, 4);
        Check.due("public constructors", KitePainter.class.getConstructors().length, 1);
        Check.due("the class is public and final",
                KitePainter.class.getModifiers() & (Modifier.PUBLIC | Modifier.FINAL), Modifier.PUBLIC | Modifier.FINAL);
        Check.due("its super class is Object", KitePainter.class.getSuperclass() == Object.class ? 1 : 0, 1);
        Check.due("its interfaces", KitePainter.class.getInterfaces().length, 0);
    }

    private static void methods() {
        Set<String> want = new TreeSet<>(Arrays.asList(FACE));
        Set<String> got = new TreeSet<>();
        for (Method method : KitePainter.class.getDeclaredMethods()) {
            if (Modifier.isPublic(method.getModifiers())) {
                got.add(told(method));
            }
        }
        for (String method : want) {
            Check.due("the face has " + method, got.contains(method) ? 1 : 0, 1);
        }
        for (String method : got) {
            Check.due("the document has " + method, want.contains(method) ? 1 : 0, 1);
        }
    }

    private static String told(Method method) {
        List<String> parameters = new ArrayList<>();
        for (Class<?> parameter : method.getParameterTypes()) {
            parameters.add(parameter.getSimpleName());
        }
        StringBuilder told = new StringBuilder();
        told.append(method.getReturnType().getSimpleName()).append(' ').append(method.getName());
        told.append('(').append(String.join(", ", parameters)).append(')');
        for (Class<?> exception : method.getExceptionTypes()) {
            told.append(' ').append(exception.getSimpleName());
        }
        return told.toString();
    }

    /** What is not of the face is private, and bears no name of the face. */
    private static void hidden() {
        Set<String> names = new HashSet<>();
        for (Method method : KitePainter.class.getDeclaredMethods()) {
            if (Modifier.isPublic(method.getModifiers())) {
                names.add(method.getName());
            }
        }
        for (Method method : KitePainter.class.getDeclaredMethods()) {
            if (!Modifier.isPublic(method.getModifiers())) {
                dueHidden(method.getName(), method.getModifiers(), names);
            }
        }
        for (Field field : KitePainter.class.getDeclaredFields()) {
            if (!Modifier.isPublic(field.getModifiers())) {
                Check.due(field.getName() + " is private", Modifier.isPrivate(field.getModifiers()) ? 1 : 0, 1);
            }
        }
        for (Class<?> inside : KitePainter.class.getDeclaredClasses()) {
            Check.due(inside.getName() + " is static", Modifier.isStatic(inside.getModifiers()) ? 1 : 0, 1);
            Check.due(inside.getName() + " is public", Modifier.isPublic(inside.getModifiers()) ? 1 : 0, 0);
            for (Method method : inside.getDeclaredMethods()) {
                Check.due(method.getName() + " bears a name of the face", names.contains(method.getName()) ? 1 : 0, 0);
            }
        }
    }

    private static void dueHidden(String name, int modifiers, Set<String> names) {
        Check.due(name + " is private", Modifier.isPrivate(modifiers) ? 1 : 0, 1);
        Check.due(name + " bears a name of the face", names.contains(name) ? 1 : 0, 0);
    }
}
