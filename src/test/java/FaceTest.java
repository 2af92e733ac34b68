import java.lang.reflect.Constructor;
import java.lang.reflect.Field;
import java.lang.reflect.Method;
import java.lang.reflect.Modifier;
import java.util.ArrayList;
import java.util.Arrays;
import java.util.List;

/** The public face of the class, and that it shows nothing else. */
public final class FaceTest {
    private static final String INDEX = " IndexOutOfBoundsException";
    private static final String ARGUMENT = " IllegalArgumentException";
    private static final String[] METHODS = {
        "int append(int int int int int)",
        "int load(int)" + ARGUMENT,
        "int run(int)" + ARGUMENT,
        "int errorOffset()",
        "int ending()",
        "int state(int)" + ARGUMENT,
        "int pixel(int int)" + INDEX + ARGUMENT,
        "int feed(int int)" + INDEX + ARGUMENT,
        "int why(int)" + INDEX,
        "int origin(int)" + INDEX,
        "int wrongIn(int)" + ARGUMENT,
        "long plan(int)" + ARGUMENT,
        "int greatestLevel()",
        "double usage()",
        "int fill(int int int int int)" + INDEX + ARGUMENT,
        "int shift(int)" + ARGUMENT,
        "int level(int)" + ARGUMENT,
        "int show(int)" + ARGUMENT,
        "boolean bypass(int boolean)" + INDEX,
        "int damage(int int int)" + INDEX + ARGUMENT + " IllegalStateException",
        "int limit(int int)" + INDEX + ARGUMENT,
        "int keep(int)" + INDEX,
        "int restore(int)" + INDEX + " NoSuchElementException",
        "int undo()",
        "long checksum()",
    };
    private static final String[] CONSTANTS = {"SYNTAX_ERROR", "OUT_OF_RANGE", "REPEATED", "TOO_MANY", "TOO_DEEP"};

    private FaceTest() {
    }

    public static void main(String[] args) {
        List<String> due = new ArrayList<>(Arrays.asList(METHODS));
        List<String> names = new ArrayList<>();
        for (Method method : LampStrip.class.getDeclaredMethods()) {
            if (!Modifier.isPrivate(method.getModifiers())) {
                Checks.dueTrue("in the face: " + faceOf(method), due.remove(faceOf(method)));
                Checks.dueTrue("public: " + method, Modifier.isPublic(method.getModifiers()));
                names.add(method.getName());
            }
        }
        Checks.dueTrue("all methods are there but for " + due, due.isEmpty());
        hasNoOtherMembers();
        hidesItsInside(LampStrip.class, names);
        for (Class<?> inside : LampStrip.class.getDeclaredClasses()) {
            Checks.dueTrue(inside + " is private and static", Modifier.isPrivate(inside.getModifiers())
                    && Modifier.isStatic(inside.getModifiers()));
            hidesItsInside(inside, names);
        }
        Checks.end();
    }

    private static String faceOf(Method method) {
        StringBuilder face = new StringBuilder(method.getReturnType().getName());
        face.append(' ').append(method.getName()).append('(');
        for (Class<?> parameter : method.getParameterTypes()) {
            face.append(face.charAt(face.length() - 1) == '(' ? "" : " ").append(parameter.getName());
        }
        face.append(')');
        for (Class<?> thrown : method.getExceptionTypes()) {
            face.append(' ').append(thrown.getSimpleName());
        }
        return face.toString();
    }

    private static void hasNoOtherMembers() {
        Checks.dueTrue("public and final", LampStrip.class.getModifiers() == (Modifier.PUBLIC | Modifier.FINAL));
        Constructor<?>[] constructors = LampStrip.class.getDeclaredConstructors();
        Checks.due("constructors", constructors.length, 1);
        Checks.dueTrue("a public one", Modifier.isPublic(constructors[0].getModifiers()));
        Checks.due("its parameters", constructors[0].getParameterCount(), 0);
        List<String> constants = new ArrayList<>();
        for (Field field : LampStrip.class.getDeclaredFields()) {
            if (!Modifier.isPrivate(field.getModifiers())) {
                constants.add(field.getName());
            }
        }
        Checks.dueTrue("the constants " + constants, constants.equals(Arrays.asList(CONSTANTS)));
    }

    /** No other method bears a public one's name, static fields are final, and there are not too many fields. */
    private static void hidesItsInside(Class<?> inside, List<String> names) {
        for (Method method : inside.getDeclaredMethods()) {
            boolean isOfFace = inside == LampStrip.class && Modifier.isPublic(method.getModifiers());
            Checks.dueTrue("a name of its own: " + method, isOfFace || !names.contains(method.getName()));
            Checks.dueTrue("at most 7 parameters: " + method, method.getParameterCount() <= 7);
        }
        int fields = 0;
        for (Field field : inside.getDeclaredFields()) {
            boolean isStatic = Modifier.isStatic(field.getModifiers());
            Checks.dueTrue("final: " + field, !isStatic || Modifier.isFinal(field.getModifiers()));
            fields += isStatic ? 0 : 1;
        }
        Checks.dueTrue("at most 20 fields: " + inside, fields <= 20);
    }
}
