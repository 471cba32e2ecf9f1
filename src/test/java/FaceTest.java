import java.lang.reflect.Constructor;
import java.lang.reflect.Field;
import java.lang.reflect.Member;
import java.lang.reflect.Method;
import java.lang.reflect.Modifier;
import java.util.ArrayList;
import java.util.Arrays;
import java.util.Collections;
import java.util.List;

/** The face of the document to the letter, and what LANGUAGE.md asks of the compiled classes. */
public final class FaceTest {
    private static final String INDEX = "IndexOutOfBoundsException";
    private static final String ARGUMENT = INDEX + " IllegalArgumentException";
    private static final String STATE = INDEX + " IllegalStateException";
    private static final String ALL = ARGUMENT + " IllegalStateException";

    private static final String[] FACE = {
        "unit(int int) " + ALL,
        "diagram(int int int int int) " + ALL,
        "exam(int int int int) " + ARGUMENT,
        "list(int int int) " + ARGUMENT,
        "fault(int int int int) " + ALL,
        "pin(int int) " + INDEX,
        "whyNot(int int) " + INDEX,
        "allocation(int) " + INDEX,
        "allocationAnew(int) " + STATE,
        "lack() ",
        "day() IllegalStateException",
        "examine(int int) " + STATE,
        "lathe(int) " + STATE,
        "mend(int int) " + STATE,
        "today() ",
        "about(int int) " + ARGUMENT,
        "clock(int int boolean) " + INDEX,
        "axle(int int) " + INDEX,
        "faultAt(int int int) " + ARGUMENT,
        "stands(int int) " + INDEX,
        "shunts() ",
        "ran(int int) " + ARGUMENT,
        "kmAnew(int) " + INDEX
    };

    private static final Check check = new Check();

    private FaceTest() {}

    public static void main(String[] args) throws IllegalAccessException {
        Class<?> face = Stablingroad.class;
        int modifiers = face.getModifiers();
        check.holds("public", Modifier.isPublic(modifiers));
        check.holds("final", Modifier.isFinal(modifiers));
        check.holds("no package", face.getPackageName().isEmpty());
        methods(face);
        constants(face);
        constructors(face);
        check.holds("some twelve classes", face.getDeclaredClasses().length <= 11);
        inside(face);
        for (Class<?> nested : face.getDeclaredClasses()) {
            nested(nested);
            inside(nested);
        }
        check.end("FaceTest");
    }

    private static void methods(Class<?> face) {
        List<String> seen = new ArrayList<>();
        for (Method method : face.getDeclaredMethods()) {
            if (Modifier.isPrivate(method.getModifiers())) {
                continue;
            }
            check.holds(method + " is public", Modifier.isPublic(method.getModifiers()));
            check.holds(method + " is of an object", !Modifier.isStatic(method.getModifiers()));
            check.holds(method + " answers an int", method.getReturnType() == int.class);
            seen.add(method.getName() + "(" + names(method.getParameterTypes()) + ") "
                    + names(method.getExceptionTypes()));
        }
        List<String> due = new ArrayList<>(Arrays.asList(FACE));
        Collections.sort(seen);
        Collections.sort(due);
        check.same("the face", String.join("\n", seen), String.join("\n", due));
    }

    private static String names(Class<?>[] types) {
        List<String> names = new ArrayList<>();
        for (Class<?> type : types) {
            names.add(type.getSimpleName());
        }
        return String.join(" ", names);
    }

    /** Read as the class has them, as a test's own copies are laid down when it is compiled. */
    private static void constants(Class<?> face) throws IllegalAccessException {
        List<String> seen = new ArrayList<>();
        for (Field field : face.getDeclaredFields()) {
            if (Modifier.isPrivate(field.getModifiers())) {
                continue;
            }
            int due = Modifier.PUBLIC | Modifier.STATIC | Modifier.FINAL;
            check.same("modifiers of " + field, field.getModifiers(), due);
            check.holds(field + " is an int", field.getType() == int.class);
            seen.add(field.getName() + " " + field.getInt(null));
        }
        Collections.sort(seen);
        check.same("constants", String.join(", ", seen), "DOOR 1, ENGINE 2, FLAT 0, NONE -1, TOILET 3");
    }

    private static void constructors(Class<?> face) {
        Constructor<?>[] constructors = face.getDeclaredConstructors();
        check.same("one constructor", constructors.length, 1);
        check.same("without parameters", constructors[0].getParameterCount(), 0);
        check.holds("public", Modifier.isPublic(constructors[0].getModifiers()));
    }

    private static void nested(Class<?> nested) {
        check.holds(nested + " is static", Modifier.isStatic(nested.getModifiers()));
        check.holds(nested + " is private", Modifier.isPrivate(nested.getModifiers()));
        for (Member member : nested.getDeclaredMethods()) {
            check.holds(member + " is not public", !Modifier.isPublic(member.getModifiers()));
            check.holds(member + " bears no name of the face", !isOfFace(member.getName()));
        }
    }

    private static boolean isOfFace(String name) {
        for (String face : FACE) {
            if (face.startsWith(name + "(")) {
                return true;
            }
        }
        return false;
    }

    private static boolean isNumber(Class<?> type) {
        return type.isPrimitive() && type != double.class && type != float.class;
    }

    /** What the class holds by now: whole numbers, its own classes, rows and lists of these. */
    private static boolean isOfLanguage(Class<?> type) {
        Class<?> part = type.isArray() ? type.getComponentType() : type;
        return isNumber(part) || part.getNestHost() == Stablingroad.class || part == ArrayList.class;
    }

    private static void inside(Class<?> type) {
        int fields = 0;
        for (Field field : type.getDeclaredFields()) {
            if (Modifier.isStatic(field.getModifiers())) {
                check.holds(field + " is final", Modifier.isFinal(field.getModifiers()));
                check.holds(field + " is a constant", isNumber(field.getType()));
            } else {
                check.holds(field + " is of a type that may be", isOfLanguage(field.getType()));
                fields++;
            }
        }
        check.holds(type + " has some twenty fields", fields <= 20);
        for (Method method : type.getDeclaredMethods()) {
            check.holds(method + " has seven parameters at most", method.getParameterCount() <= 7);
            boolean isPrivate = Modifier.isPrivate(method.getModifiers());
            check.holds(method + " bears a name of its own", !isPrivate || !isOfFace(method.getName()));
        }
    }
}
