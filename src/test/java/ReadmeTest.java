import java.lang.reflect.InvocationTargetException;
import java.lang.reflect.Method;
import java.lang.reflect.Modifier;
import java.nio.charset.StandardCharsets;
import java.nio.file.Files;
import java.nio.file.Path;
import java.util.Set;
import java.util.TreeSet;
import java.util.regex.Matcher;
import java.util.regex.Pattern;
import java.util.stream.Collectors;
import java.util.stream.Stream;

/** What README.md says is so of the program and its tests; run from the project's root. */
public final class ReadmeTest {
    private static final int LEAST_CALLS = 30;
    private static int wrong = 0;

    private static void require(boolean is, String what) {
        if (!is) {
            wrong++;
            System.out.println("README.md: " + what);
        }
    }

    public static void main(String[] args) throws Exception {
        String page = Files.readString(Path.of("README.md"), StandardCharsets.UTF_8);
        int calls = example(page);
        theCalls(page);
        theConstants(page);
        theTests(page);
        System.out.println(calls + " answers of README.md looked at, " + wrong + " things not as it says");
        if (wrong != 0) {
            System.exit(1);
        }
    }

    /** Makes each call of the example and holds its answer against the one that stands behind it. */
    private static int example(String page) throws ReflectiveOperationException {
        Matcher block = Pattern.compile("(?s)```java\n(.*?)```").matcher(page);
        require(block.find(), "an example");
        BetweenThisAndThat x = new BetweenThisAndThat();
        Pattern row = Pattern.compile("x\\.(\\w+)\\(([^;]*|.*';'.*)\\); *// (-?\\d+|NO):.*");
        int calls = 0;
        for (String line : block.group(1).split("\n")) {
            if (!line.startsWith("x.")) {
                require(line.isEmpty() || line.startsWith("//") || line.startsWith("BetweenThisAndThat x = new "),
                        "a line that is no call: " + line);
                continue;
            }
            Matcher call = row.matcher(line);
            if (!call.matches()) {
                require(false, "a call without its answer: " + line);
                continue;
            }
            calls++;
            long due = call.group(3).equals("NO") ? BetweenThisAndThat.NO : Long.parseLong(call.group(3));
            long got = answer(x, call.group(1), call.group(2));
            require(got == due, line + " answered " + got);
        }
        require(calls >= LEAST_CALLS, "the calls of the example are found");
        return calls;
    }

    private static long answer(BetweenThisAndThat x, String name, String numbers)
            throws IllegalAccessException, InvocationTargetException, NoSuchMethodException {
        String[] told = numbers.isEmpty() ? new String[0] : numbers.split(", ");
        Object[] arguments = new Object[told.length];
        Class<?>[] types = new Class<?>[told.length];
        for (int i = 0; i < told.length; i++) {
            arguments[i] = told[i].startsWith("'") ? (int) told[i].charAt(1) : Integer.parseInt(told[i]);
            types[i] = int.class;
        }
        Object got = BetweenThisAndThat.class.getMethod(name, types).invoke(x, arguments);
        return ((Number) got).longValue();
    }

    private static String between(String page, String from, String to) {
        int start = page.indexOf(from);
        int end = page.indexOf(to, start + 1);
        require(start >= 0 && end > start, "a part from '" + from.trim() + "' to '" + to.trim() + "'");
        return start >= 0 && end > start ? page.substring(start, end) : "";
    }

    private static Set<String> namesIn(String part) {
        Set<String> names = new TreeSet<>();
        Matcher each = Pattern.compile("`(\\w+)`").matcher(part);
        while (each.find()) {
            names.add(each.group(1));
        }
        return names;
    }

    private static void theCalls(String page) {
        Set<String> face = new TreeSet<>();
        for (Method each : BetweenThisAndThat.class.getDeclaredMethods()) {
            if (Modifier.isPublic(each.getModifiers())) {
                face.add(each.getName());
            }
        }
        Set<String> told = namesIn(between(page, "### The calls\n", "\n### "));
        require(told.equals(face), "the calls are " + face + ", told are " + told);
    }

    private static void theConstants(String page) throws ReflectiveOperationException {
        Matcher each = Pattern.compile("`([A-Z]+)` \\((-\\d+)\\)").matcher(page);
        Set<String> seen = new TreeSet<>();
        while (each.find()) {
            seen.add(each.group(1));
            int value = BetweenThisAndThat.class.getField(each.group(1)).getInt(null);
            require(value == Integer.parseInt(each.group(2)), each.group(1) + " is " + value);
        }
        require(seen.equals(Set.of("NONE", "BAD", "STATE", "FULL")), "the constants told are " + seen);
    }

    private static void theTests(String page) throws Exception {
        Set<String> there;
        try (Stream<Path> files = Files.list(Path.of("src/test/java"))) {
            there = files.map(file -> file.getFileName().toString().replace(".java", ""))
                    .collect(Collectors.toCollection(TreeSet::new));
        }
        Set<String> told = new TreeSet<>();
        Matcher each = Pattern.compile("(?m)^- `(\\w+Test)`:").matcher(page);
        while (each.find()) {
            told.add(each.group(1));
        }
        require(told.equals(there), "the tests are " + there + ", told are " + told);
    }
}
