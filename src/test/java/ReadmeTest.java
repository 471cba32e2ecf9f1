import java.io.IOException;
import java.lang.reflect.InvocationTargetException;
import java.lang.reflect.Method;
import java.lang.reflect.Modifier;
import java.nio.file.Files;
import java.nio.file.Path;
import java.util.HashMap;
import java.util.List;
import java.util.Map;
import java.util.regex.Matcher;
import java.util.regex.Pattern;
import java.util.stream.Stream;

/** What README.md says holds: its example answers as it tells, and it names all calls and all tests. */
public final class ReadmeTest {
    private static final Path README = Path.of("README.md");
    private static final Path TESTS = Path.of("src/test/java");
    private static final String MADE = "Stablingroad road = new Stablingroad();";
    private static final Pattern CALL = Pattern.compile(
            "(?:int (\\w+) = )?road\\.(\\w+)\\((.*)\\); +// (-?\\d+|\\w+Exception): \\S.*");
    private static final int FEWEST_CALLS = 15;

    private static final Check check = new Check();

    private final Stablingroad road = new Stablingroad();
    private final Map<String, Integer> variables = new HashMap<>();

    private ReadmeTest() {}

    public static void main(String[] args) throws IOException, ReflectiveOperationException {
        String text = Files.readString(README);
        new ReadmeTest().example(text);
        everyCallIsNamed(text);
        everyTestIsNamed(text);
        theCommandsAreThere(text);
        check.end("ReadmeTest");
    }

    private void example(String text) throws ReflectiveOperationException {
        Matcher block = Pattern.compile("(?s)```java\n(.*?)```").matcher(text);
        check.holds("there is an example", block.find());
        List<String> lines = block.group(1).lines().toList();
        check.same("the example begins with", lines.get(0), MADE);
        int calls = 0;
        for (String line : lines.subList(1, lines.size())) {
            if (!line.isBlank()) {
                call(line);
                calls++;
            }
        }
        check.holds("the example has calls enough", calls >= FEWEST_CALLS);
    }

    private void call(String line) throws ReflectiveOperationException {
        Matcher told = CALL.matcher(line);
        if (!told.matches()) {
            check.wrong("not a call with what it answers: " + line);
            return;
        }
        String got = outcome(methodOfFace(told.group(2)), args(told.group(3)));
        check.same(line, got, told.group(4));
        if (told.group(1) != null) {
            variables.put(told.group(1), Integer.valueOf(got));
        }
    }

    private String outcome(Method method, Object[] args) throws ReflectiveOperationException {
        try {
            return String.valueOf(method.invoke(road, args));
        } catch (InvocationTargetException thrown) {
            return Check.nameOf(thrown.getCause(), Stablingroad.class);
        }
    }

    private static Method methodOfFace(String name) throws ReflectiveOperationException {
        for (Method method : Stablingroad.class.getDeclaredMethods()) {
            if (method.getName().equals(name) && Modifier.isPublic(method.getModifiers())) {
                return method;
            }
        }
        throw new NoSuchMethodException(name);
    }

    private Object[] args(String told) throws ReflectiveOperationException {
        String[] parts = told.isEmpty() ? new String[0] : told.split(", ");
        Object[] args = new Object[parts.length];
        for (int i = 0; i < parts.length; i++) {
            args[i] = arg(parts[i]);
        }
        return args;
    }

    private Object arg(String told) throws ReflectiveOperationException {
        if (told.equals("true") || told.equals("false")) {
            return Boolean.valueOf(told);
        }
        if (told.startsWith("Stablingroad.")) {
            return Stablingroad.class.getField(told.substring("Stablingroad.".length())).get(null);
        }
        return variables.containsKey(told) ? variables.get(told) : Integer.valueOf(told);
    }

    private static void everyCallIsNamed(String text) {
        for (Method method : Stablingroad.class.getDeclaredMethods()) {
            if (Modifier.isPublic(method.getModifiers())) {
                String name = "`" + method.getName() + "(";
                check.holds("README.md says what " + name + " is for", text.contains(name));
            }
        }
    }

    /** In both ways: none is left out, and none is named that is gone. */
    private static void everyTestIsNamed(String text) throws IOException {
        try (Stream<Path> files = Files.list(TESTS)) {
            for (Path file : files.toList()) {
                String name = file.getFileName().toString().replace(".java", "");
                check.holds("README.md names " + name, text.contains("`" + name + "`"));
            }
        }
        Matcher named = Pattern.compile("`(\\w+Test)`").matcher(text);
        while (named.find()) {
            Path file = TESTS.resolve(named.group(1) + ".java");
            check.holds("there is " + file, Files.exists(file));
        }
    }

    private static void theCommandsAreThere(String text) {
        check.holds("all tests are run by .ci/run", text.contains("\n    bash .ci/run\n"));
        check.holds(".ci/run is executable", Files.isExecutable(Path.of(".ci/run")));
        Matcher single = Pattern.compile("\n    javac .* && java -cp out (\\w+)\n").matcher(text);
        check.holds("one test is run alone", single.find());
        Path file = TESTS.resolve(single.group(1) + ".java");
        check.holds("there is " + file, Files.exists(file));
    }
}
