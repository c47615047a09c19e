import java.lang.reflect.Constructor;
import java.lang.reflect.Field;
import java.lang.reflect.Method;
import java.lang.reflect.Modifier;
import java.util.Arrays;
import java.util.Set;
import java.util.TreeSet;

/** The public face: just the document's constants, constructor and methods, and rule 1 of LANGUAGE.md. */
public final class FaceTest {
    private static final Check check = new Check("FaceTest");
    private static final Class<?> FACE = LoadBalancer.class;

    private static final String[] METHODS = {
        "int addServer(int, int) IllegalArgumentException IllegalStateException",
        "int setWeight(int, int) IndexOutOfBoundsException IllegalArgumentException",
        "boolean setDraining(int, boolean) IndexOutOfBoundsException",
        "boolean report(int, boolean) IndexOutOfBoundsException",
        "int servers()",
        "void setThresholds(int, int) IllegalArgumentException",
        "int setSlowStart(int) IllegalArgumentException",
        "int setCool(int) IllegalArgumentException",
        "int setSticky(int) IllegalArgumentException",
        "int setPolicy(int) IllegalArgumentException",
        "int setSeed(int)",
        "int tick(int) IllegalArgumentException",
        "int preview(int)",
        "int open(int) IllegalStateException",
        "int close(int, boolean) IndexOutOfBoundsException IllegalStateException",
        "int serverOf(int) IndexOutOfBoundsException",
        "boolean isAvailable(int) IndexOutOfBoundsException",
        "int effectiveWeight(int) IndexOutOfBoundsException",
        "int active(int) IndexOutOfBoundsException",
        "double utilization(int) IndexOutOfBoundsException",
        "int breaker(int) IndexOutOfBoundsException",
        "int owner(int) IllegalStateException",
        "int count(int) IllegalArgumentException",
        "void save(int) IllegalArgumentException",
        "void restore(int) IllegalArgumentException IllegalStateException",
    };

    public static void main(String[] args) throws IllegalAccessException {
        constants();
        methods();
        constructors();
        insideClasses();
        check.end();
    }

    private static void constants() throws IllegalAccessException {
        Set<String> found = new TreeSet<>();
        for (Field field : FACE.getDeclaredFields()) {
            if (!Modifier.isPrivate(field.getModifiers())) {
                found.add(Modifier.toString(field.getModifiers()) + " " + field.getType() + " " + field.getName() + " = "
                    + field.get(null));
            }
        }
        Set<String> due = new TreeSet<>();
        String[] named = {"ROUND_ROBIN = 0", "WEIGHTED = 1", "LEAST_CONNECTIONS = 2", "HASH = 3", "TWO_CHOICES = 4",
            "CLOSED = 0", "OPEN = 1", "HALF_OPEN = 2", "NONE = -1"};
        for (String constant : named) {
            due.add("public static final int " + constant);
        }
        check.due("the constants", found, due);
    }

    private static String text(Method method) {
        StringBuilder text = new StringBuilder(method.getReturnType() + " " + method.getName() + "(");
        String between = "";
        for (Class<?> type : method.getParameterTypes()) {
            text.append(between).append(type);
            between = ", ";
        }
        text.append(")");
        for (Class<?> type : method.getExceptionTypes()) {
            text.append(" ").append(type.getSimpleName());
        }
        return text.toString();
    }

    private static void methods() {
        Set<String> found = new TreeSet<>();
        for (Method method : FACE.getDeclaredMethods()) {
            if (!Modifier.isPrivate(method.getModifiers())) {
                found.add(text(method));
                check.due(method.getName() + " is", Modifier.toString(method.getModifiers()), "public");
            }
        }
        check.due("the methods", found, new TreeSet<>(Arrays.asList(METHODS)));
    }

    private static void constructors() {
        Constructor<?>[] all = FACE.getDeclaredConstructors();
        check.due("constructors", all.length, 1);
        check.due("the constructor", all[0].toString(), "public LoadBalancer()");
        check.due("the class", Modifier.toString(FACE.getModifiers()), "public final");
    }

    /** The names of the face are its own: no method inside bears one of them. */
    private static void insideClasses() {
        Set<String> names = new TreeSet<>();
        for (Method method : FACE.getDeclaredMethods()) {
            boolean fresh = names.add(method.getName());
            check.due(method.getName() + " stands once", fresh, true);
        }
        for (Class<?> inside : FACE.getDeclaredClasses()) {
            int modifiers = inside.getModifiers();
            check.due(inside.getName() + " is static", Modifier.isStatic(modifiers), true);
            check.due(inside.getName() + " is hidden", Modifier.isPublic(modifiers) || Modifier.isProtected(modifiers), false);
            for (Method method : inside.getDeclaredMethods()) {
                check.due(method + " has a name of the face", names.contains(method.getName()), false);
            }
        }
    }
}
