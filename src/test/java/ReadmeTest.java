import java.io.IOException;
import java.lang.reflect.Method;
import java.lang.reflect.Modifier;
import java.nio.file.Files;
import java.nio.file.Path;
import java.util.ArrayList;
import java.util.Arrays;
import java.util.List;
import java.util.Map;
import java.util.Set;
import java.util.TreeMap;
import java.util.TreeSet;
import java.util.regex.Matcher;
import java.util.regex.Pattern;
import java.util.stream.Stream;

/** README.md, read from the folder in which the test runs: what it says must be what the class does. */
public final class ReadmeTest {
    private static final Check check = new Check("ReadmeTest");
    private static final Pattern CALL_ROW = Pattern.compile(
        "\\| `(\\w+)\\((.*?)\\)` \\| (.*?) ?\\| (.*?) \\| (.*?) ?\\|");
    private static final Pattern TEST_ROW = Pattern.compile("\\| `(\\w+Test)` \\| .+ \\|");
    private static final Pattern RANGE = Pattern.compile("`(\\w+)` (-?\\d+) to (-?\\d+)");
    private static final Pattern AT_FIRST = Pattern.compile("(-?\\d+) at first");
    private static final Pattern THRESHOLDS = Pattern.compile("RISE is (\\d+) and FALL is (\\d+) at first");
    private static final Pattern EXCEPTION = Pattern.compile("`(\\w+Exception)`");

    public static void main(String[] args) throws IOException {
        List<String> lines = Files.readAllLines(Path.of("README.md"));
        blocks(lines);
        callTable(lines);
        thresholdsAtFirst(lines);
        testTable(lines);
        check.end();
    }

    private static Set<String> face() {
        Set<String> names = new TreeSet<>();
        for (Method method : LoadBalancer.class.getDeclaredMethods()) {
            if (Modifier.isPublic(method.getModifiers())) {
                names.add(method.getName());
            }
        }
        return names;
    }

    /** Every line of every block of Java is made as a call; together they show the whole face. */
    private static void blocks(List<String> lines) {
        Set<String> shown = new TreeSet<>();
        Script script = null;
        for (String line : lines) {
            if (line.equals("```java")) {
                script = new Script(check);
            } else if (line.equals("```")) {
                script = null;
            } else if (script != null) {
                shown.add(script.run(line));
            }
        }
        shown.remove("");
        check.due("the calls shown in blocks", shown, face());
    }

    private static void callTable(List<String> lines) {
        Set<String> told = new TreeSet<>();
        for (String line : lines) {
            Matcher row = CALL_ROW.matcher(line);
            if (row.matches()) {
                check.due("one row for " + row.group(1), told.add(row.group(1)), true);
                Method method = Script.method(row.group(1));
                List<String> names = row.group(2).isEmpty() ? List.of() : Arrays.asList(row.group(2).split(", "));
                Map<String, int[]> ranges = ranges(row.group(3));
                check.due("the number of arguments: " + line, names.size(), method.getParameterCount());
                check.due("the exceptions: " + line, found(EXCEPTION, row.group(5)), declared(method));
                check.due("ranges are those of arguments: " + line, names.containsAll(ranges.keySet()), true);
                rangedArguments(method, names, ranges);
                numbersOfThings(method, names, ranges);
                atFirst(method, names, ranges, row.group(4));
            }
        }
        check.due("the calls in the table", told, face());
    }

    private static List<String> found(Pattern pattern, String text) {
        List<String> words = new ArrayList<>();
        Matcher matcher = pattern.matcher(text);
        while (matcher.find()) {
            words.add(matcher.group(1));
        }
        return words;
    }

    private static List<String> declared(Method method) {
        List<String> names = new ArrayList<>();
        for (Class<?> type : method.getExceptionTypes()) {
            names.add(type.getSimpleName());
        }
        return names;
    }

    private static Map<String, int[]> ranges(String text) {
        Map<String, int[]> ranges = new TreeMap<>();
        Matcher range = RANGE.matcher(text);
        while (range.find()) {
            ranges.put(range.group(1), new int[] {Integer.parseInt(range.group(2)), Integer.parseInt(range.group(3))});
        }
        return ranges;
    }

    /** A balancer with three servers, one active connection, and something in both slots. */
    private static LoadBalancer ready() {
        LoadBalancer balancer = Scenes.withServers(3);
        balancer.open(0);
        balancer.save(0);
        balancer.save(1);
        return balancer;
    }

    /** Arguments that are accepted by a balancer that is ready, but for the one at the place. */
    private static Object[] arguments(Method method, List<String> names, Map<String, int[]> ranges, int place,
        int value) {
        Object[] arguments = new Object[names.size()];
        for (int i = 0; i < arguments.length; i++) {
            if (method.getParameterTypes()[i] == boolean.class) {
                arguments[i] = true;
            } else {
                arguments[i] = ranges.containsKey(names.get(i)) ? ranges.get(names.get(i))[0] : 0;
            }
        }
        if (place >= 0) {
            arguments[place] = value;
        }
        return arguments;
    }

    private static boolean isRefused(String exception, Method method, Object[] arguments) {
        return Script.answer(ready(), method, arguments).equals("throws " + exception);
    }

    /** The ends of a range are inside, and the numbers beside them are refused. */
    private static void rangedArguments(Method method, List<String> names, Map<String, int[]> ranges) {
        for (int place = 0; place < names.size(); place++) {
            int[] range = ranges.get(names.get(place));
            if (range != null) {
                int[] values = {range[0], range[1], range[0] - 1, range[1] + 1, Integer.MIN_VALUE, Integer.MAX_VALUE};
                for (int i = 0; i < values.length; i++) {
                    Object[] arguments = arguments(method, names, ranges, place, values[i]);
                    check.due(method.getName() + Arrays.toString(arguments) + " is out of range",
                        isRefused("IllegalArgumentException", method, arguments), i >= 2);
                }
            }
        }
    }

    /** Three servers and one connection are there. */
    private static void numbersOfThings(Method method, List<String> names, Map<String, int[]> ranges) {
        for (int place = 0; place < names.size(); place++) {
            boolean isServer = names.get(place).equals("server");
            if (isServer || names.get(place).equals("connection")) {
                int there = isServer ? 3 : 1;
                int[] values = {0, there - 1, -1, there, Integer.MIN_VALUE, Integer.MAX_VALUE};
                for (int i = 0; i < values.length; i++) {
                    Object[] arguments = arguments(method, names, ranges, place, values[i]);
                    check.due(method.getName() + Arrays.toString(arguments) + " has no such number",
                        isRefused("IndexOutOfBoundsException", method, arguments), i >= 2);
                }
            }
        }
    }

    /** A call that answers the previous value of a setting tells, on a new object, what it is at first. */
    private static void atFirst(Method method, List<String> names, Map<String, int[]> ranges, String text) {
        List<String> told = found(AT_FIRST, text);
        if (!told.isEmpty() && method.getReturnType() == int.class) {
            Object[] arguments = arguments(method, names, ranges, -1, 0);
            check.due(method.getName() + " at first", Script.answer(new LoadBalancer(), method, arguments),
                Integer.valueOf(told.get(0)));
        }
    }

    /** No call answers the thresholds, so the checks are counted after which the health changes. */
    private static void thresholdsAtFirst(List<String> lines) {
        LoadBalancer balancer = Scenes.withServers(1);
        int failed = 1;
        while (balancer.report(0, false) && failed < 100) {
            failed++;
        }
        int passed = 1;
        while (!balancer.report(0, true) && passed < 100) {
            passed++;
        }
        Matcher told = THRESHOLDS.matcher(String.join(" ", lines));
        check.due("RISE and FALL are told", told.find(), true);
        check.due("RISE at first", passed, Integer.parseInt(told.group(1)));
        check.due("FALL at first", failed, Integer.parseInt(told.group(2)));
    }

    /** The table of tests has a row for each test program and no other. */
    private static void testTable(List<String> lines) throws IOException {
        Set<String> told = new TreeSet<>();
        for (String line : lines) {
            Matcher row = TEST_ROW.matcher(line);
            if (row.matches()) {
                told.add(row.group(1));
            }
        }
        Set<String> there = new TreeSet<>();
        try (Stream<Path> files = Files.list(Path.of("src/test/java"))) {
            files.map(file -> file.getFileName().toString()).filter(name -> name.endsWith("Test.java"))
                .forEach(name -> there.add(name.substring(0, name.length() - ".java".length())));
        }
        check.due("the tests in the table", told, there);
    }
}
