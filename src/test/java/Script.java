import java.lang.reflect.Field;
import java.lang.reflect.InvocationTargetException;
import java.lang.reflect.Method;
import java.util.Map;
import java.util.TreeMap;
import java.util.regex.Matcher;
import java.util.regex.Pattern;

/** Makes the calls that a text shows, line by line, on a balancer of its own, and compares the answers told there. */
final class Script {
    private static final String NEW_OBJECT = "LoadBalancer balancer = new LoadBalancer();";
    private static final Pattern CALL = Pattern.compile(
        "(?:(int|boolean|double) (\\w+) = )?balancer\\.(\\w+)\\((.*?)\\); *// ([-\\w.]+(?: \\w+Exception)?)(?:: .+)?");

    private final Check check;
    private final Map<String, Object> variables = new TreeMap<>();
    private LoadBalancer balancer = null;

    Script(Check check) {
        this.check = check;
    }

    /** Runs one line; returns the name of the method that was called, or an empty text if none was. */
    String run(String line) {
        if (line.equals(NEW_OBJECT)) {
            balancer = new LoadBalancer();
            variables.clear();
            return "";
        }
        Matcher call = CALL.matcher(line);
        boolean understood = balancer != null && call.matches();
        check.due("a line in a block is a call with its answer: " + line, understood, true);
        if (!understood) {
            return "";
        }
        Method method = method(call.group(3));
        Object answer = answer(balancer, method, arguments(call.group(4)));
        check.due(line, answer, due(call.group(5), method.getReturnType()));
        if (call.group(1) != null) {
            check.due("the type in " + line, call.group(1), method.getReturnType().getName());
            variables.put(call.group(2), answer);
        }
        return method.getName();
    }

    /** The method of the face with this name; there is only one. */
    static Method method(String name) {
        for (Method method : LoadBalancer.class.getMethods()) {
            if (method.getName().equals(name) && method.getDeclaringClass() == LoadBalancer.class) {
                return method;
            }
        }
        throw new AssertionError("the face has no method " + name);
    }

    /** What the call answers: its value, "nothing", or "throws" and the very class of the exception. */
    static Object answer(LoadBalancer balancer, Method method, Object... arguments) {
        try {
            Object value = method.invoke(balancer, arguments);
            return value == null ? "nothing" : value;
        } catch (InvocationTargetException e) {
            return "throws " + e.getCause().getClass().getSimpleName();
        } catch (IllegalAccessException e) {
            throw new AssertionError(e);
        }
    }

    private Object[] arguments(String text) {
        String[] words = text.isEmpty() ? new String[0] : text.split(", ");
        Object[] arguments = new Object[words.length];
        for (int i = 0; i < words.length; i++) {
            arguments[i] = argument(words[i]);
        }
        return arguments;
    }

    private Object argument(String word) {
        if (word.startsWith("LoadBalancer.")) {
            return constant(word.substring("LoadBalancer.".length()));
        }
        if (word.equals("true") || word.equals("false")) {
            return Boolean.valueOf(word);
        }
        return variables.containsKey(word) ? variables.get(word) : Integer.valueOf(word);
    }

    private static Object due(String word, Class<?> type) {
        if (word.startsWith("throws ") || word.equals("nothing")) {
            return word;
        }
        if (type == boolean.class) {
            return word.equals("true") || word.equals("false") ? Boolean.valueOf(word) : word;
        }
        if (type == double.class) {
            return Double.valueOf(word);
        }
        return word.matches("-?\\d+") ? Integer.valueOf(word) : constant(word);
    }

    private static Object constant(String name) {
        try {
            Field field = LoadBalancer.class.getField(name);
            return field.get(null);
        } catch (NoSuchFieldException | IllegalAccessException e) {
            throw new AssertionError("the face has no constant " + name, e);
        }
    }
}
