import java.io.IOException;
import java.lang.reflect.InvocationTargetException;
import java.lang.reflect.Method;
import java.lang.reflect.Modifier;
import java.nio.file.Files;
import java.nio.file.Path;
import java.util.ArrayList;
import java.util.HashMap;
import java.util.List;
import java.util.Map;
import java.util.TreeSet;
import java.util.regex.Matcher;
import java.util.regex.Pattern;
import java.util.stream.Stream;

/** Makes the calls that README.md shows, and looks whether what it says of them and of the tests is so. */
public final class SplitForestReadme {
    private static final Path README = Path.of("README.md");
    private static final Path TESTS = Path.of("src/test/java");
    private static final Path RUN = Path.of(".ci/run");
    private static final Pattern MAKING = Pattern.compile("SplitForest (\\w+) = new SplitForest\\((-?\\d+)\\);");
    private static final Pattern CALL = Pattern.compile(
            "(\\w+)\\.(\\w+)\\(([-\\d, ]*)\\);(?: *// (-?\\d+|true|false|SplitForest\\.\\w+)(?:: .+)?)?");
    private static final Pattern QUOTED = Pattern.compile("`([^`\\s]+)`");
    private static final Pattern TEST_NAME = Pattern.compile("`(SplitForest\\w+)`");
    private static final Map<String, SplitForest> objects = new HashMap<>();
    private static final TreeSet<String> answered = new TreeSet<>();
    private static int wrong = 0;

    public static void main(String[] args) throws IOException, ReflectiveOperationException {
        String text = Files.readString(README);
        for (String line : shownLines(text)) {
            follow(line);
        }
        eachMethodIsShown();
        eachPathIsThere(text);
        eachTestIsNamed(text);
        System.out.println(wrong == 0 ? "what README.md shows is so" : wrong + " things are not so");
        if (wrong != 0) {
            System.exit(1);
        }
    }

    private static void due(String what, Object got, Object want) {
        if (!got.equals(want)) {
            wrong++;
            System.out.println("README.md: " + what + ": " + got + ", due is " + want);
        }
    }

    /** The lines between ```java and ```, but for empty ones. */
    private static List<String> shownLines(String text) {
        List<String> shown = new ArrayList<>();
        boolean inside = false;
        for (String line : text.split("\n")) {
            if (line.startsWith("```")) {
                inside = line.equals("```java");
            } else if (inside && !line.isBlank()) {
                shown.add(line.strip());
            }
        }
        return shown;
    }

    private static void follow(String line) throws ReflectiveOperationException {
        Matcher making = MAKING.matcher(line);
        Matcher call = CALL.matcher(line);
        if (making.matches()) {
            objects.put(making.group(1), new SplitForest(Integer.parseInt(making.group(2))));
        } else if (call.matches() && objects.containsKey(call.group(1))) {
            Object got = answer(objects.get(call.group(1)), call.group(2), call.group(3));
            if (call.group(4) != null) {
                answered.add(call.group(2));
                due(line, got, told(call.group(4)));
            }
        } else {
            due("a line that can be followed, " + line, false, true);
        }
    }

    private static Object answer(SplitForest object, String name, String arguments)
            throws ReflectiveOperationException {
        String[] parts = arguments.isEmpty() ? new String[0] : arguments.split(", *");
        Class<?>[] types = new Class<?>[parts.length];
        Object[] values = new Object[parts.length];
        for (int i = 0; i < parts.length; i++) {
            types[i] = int.class;
            values[i] = Integer.parseInt(parts[i]);
        }
        try {
            return SplitForest.class.getMethod(name, types).invoke(object, values);
        } catch (NoSuchMethodException | InvocationTargetException failed) {
            return failed;
        }
    }

    private static Object told(String answer) throws ReflectiveOperationException {
        if (answer.equals("true") || answer.equals("false")) {
            return answer.equals("true");
        }
        if (answer.startsWith("SplitForest.")) {
            return SplitForest.class.getField(answer.substring("SplitForest.".length())).get(null);
        }
        return Integer.parseInt(answer);
    }

    private static void eachMethodIsShown() {
        for (Method method : SplitForest.class.getDeclaredMethods()) {
            if (Modifier.isPublic(method.getModifiers())) {
                due(method.getName() + " is shown with its answer", answered.contains(method.getName()), true);
            }
        }
    }

    /** What is not in this project is no matter of this test. */
    private static void eachPathIsThere(String text) {
        Matcher quoted = QUOTED.matcher(text);
        while (quoted.find()) {
            if (quoted.group(1).contains("/") && !quoted.group(1).startsWith("../")) {
                due(quoted.group(1) + " is there", Files.exists(Path.of(quoted.group(1))), true);
            }
        }
        due(RUN + " is there and named", Files.exists(RUN) && text.contains("\n    " + RUN + "\n"), true);
    }

    private static void eachTestIsNamed(String text) throws IOException {
        TreeSet<String> there = new TreeSet<>();
        try (Stream<Path> files = Files.list(TESTS)) {
            files.forEach(file -> there.add(file.getFileName().toString().replace(".java", "")));
        }
        TreeSet<String> named = new TreeSet<>();
        Matcher name = TEST_NAME.matcher(text);
        while (name.find()) {
            named.add(name.group(1));
        }
        due("the tests that are named", named, there);
    }
}
