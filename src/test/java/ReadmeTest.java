import java.io.IOException;
import java.io.UncheckedIOException;
import java.lang.reflect.InvocationTargetException;
import java.lang.reflect.Method;
import java.lang.reflect.Modifier;
import java.nio.file.Files;
import java.nio.file.Path;
import java.util.ArrayList;
import java.util.HashMap;
import java.util.List;
import java.util.Map;
import java.util.regex.Matcher;
import java.util.regex.Pattern;
import java.util.stream.Stream;

/**
 * What README.md shows is so: the calls between its java marks are made one after the other, and
 * each answer that is written behind one, or throw, is compared. It names every test file and call.
 */
public final class ReadmeTest {
    private static final Path README = Path.of("README.md");
    private static final String FIRST_LINE = "OverlayNet net = new OverlayNet();";
    private static final Pattern CALL =
            Pattern.compile("(?:int (\\w+) = )?net\\.(\\w+)\\(([^)]*)\\); +// (.+)");
    private static final Pattern ANSWER = Pattern.compile("(-?\\d+|true|false|throws \\w+)(?:: .+)?");

    private final OverlayNet net = new OverlayNet();
    private final Map<String, Integer> names = new HashMap<>();

    public static void main(String[] args) throws IOException {
        String text = Files.readString(README);
        playExample(text);
        everyTestFileIsNamed(text);
        everyCallIsNamed(text);
        Check.end();
    }

    private static void playExample(String text) {
        List<String> lines = example(text);
        Check.due("the first line", lines.get(0), FIRST_LINE);
        ReadmeTest test = new ReadmeTest();
        for (String line : lines.subList(1, lines.size())) {
            test.play(line);
        }
    }

    private static List<String> example(String text) {
        String start = "```java\n";
        int from = text.indexOf(start) + start.length();
        List<String> lines = new ArrayList<>();
        for (String line : text.substring(from, text.indexOf("```", from)).split("\n")) {
            if (!line.isBlank()) {
                lines.add(line);
            }
        }
        Check.due("there is an example", lines.size() > 1, true);
        return lines;
    }

    private void play(String line) {
        Matcher call = CALL.matcher(line);
        if (!call.matches()) {
            Check.due("the form of a line", line, CALL.pattern());
            return;
        }
        Method method = methodNamed(call.group(2));
        String got = answer(method, call.group(3));
        if (call.group(1) != null) {
            names.put(call.group(1), Integer.valueOf(got));
        }
        Matcher shown = ANSWER.matcher(call.group(4));
        if (shown.matches()) {
            Check.due(line, got, shown.group(1));
        } else {
            // A call without an answer has words behind it alone, and throws nothing.
            Check.due(line, got, "null");
            Check.due(line + " answers", method.getReturnType(), void.class);
        }
    }

    private static Method methodNamed(String name) {
        for (Method method : OverlayNet.class.getDeclaredMethods()) {
            if (method.getName().equals(name)) {
                return method;
            }
        }
        throw new AssertionError("README.md shows a call that there is not: " + name);
    }

    private String answer(Method method, String arguments) {
        List<Object> values = new ArrayList<>();
        for (String one : arguments.isEmpty() ? new String[0] : arguments.split(", ")) {
            values.add(valueOf(one));
        }
        try {
            return String.valueOf(method.invoke(net, values.toArray()));
        } catch (InvocationTargetException e) {
            return "throws " + e.getCause().getClass().getSimpleName();
        } catch (IllegalAccessException e) {
            throw new AssertionError(e);
        }
    }

    private Object valueOf(String argument) {
        if (argument.equals("true") || argument.equals("false")) {
            return Boolean.valueOf(argument);
        }
        return names.containsKey(argument) ? names.get(argument) : Integer.valueOf(argument);
    }

    private static void everyTestFileIsNamed(String text) {
        try (Stream<Path> files = Files.list(Path.of("src/test/java"))) {
            files.map(file -> file.getFileName().toString().replace(".java", ""))
                    .forEach(name -> Check.due("names " + name, text.contains("`" + name + "`"), true));
        } catch (IOException e) {
            throw new UncheckedIOException(e);
        }
    }

    private static void everyCallIsNamed(String text) {
        for (Method method : OverlayNet.class.getDeclaredMethods()) {
            if (Modifier.isPublic(method.getModifiers())) {
                Check.due("names " + method.getName(), text.contains("| `" + method.getName() + "("), true);
            }
        }
    }
}
