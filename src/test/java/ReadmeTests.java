import java.io.IOException;
import java.lang.reflect.InvocationTargetException;
import java.lang.reflect.Method;
import java.lang.reflect.Modifier;
import java.nio.file.Files;
import java.nio.file.Path;
import java.util.HashMap;
import java.util.Map;
import java.util.Set;
import java.util.TreeSet;
import java.util.regex.Matcher;
import java.util.regex.Pattern;
import java.util.stream.Stream;

/** The example of README.md is made as it stands there, each call with its answer; its command is the one that runs the tests. */
public final class ReadmeTests {
    private static final Path README = Path.of("README.md"), TESTS = Path.of("src/test/java"), SCRIPT = Path.of(".ci/run");
    private static final String NEW_OBJECT = "DiagramOdds x = new DiagramOdds();";
    /** A call, perhaps with a name for its answer; the answer; and a remark. */
    private static final Pattern CALL = Pattern.compile("(?:int (\\w+) = )?x\\.(\\w+)\\((.*)\\);\\s+// (no answer|throws \\w+|-?\\d+|[A-Z]+)(?:: (.*))?");

    private final Map<String, Integer> numbers = new HashMap<>();
    private final Set<String> called = new TreeSet<>();
    private DiagramOdds x = null;

    private ReadmeTests() throws ReflectiveOperationException {
        for (String name : new String[] {"NONE", "UNKNOWN", "OUTSIDE", "STATE", "ROOM"}) {
            int value = DiagramOdds.class.getField(name).getInt(null);
            numbers.put(name, value);
            numbers.put("DiagramOdds." + name, value);
        }
    }

    /** The lines between the fences of one language. */
    private static String[] block(String text, String language) {
        StringBuilder lines = new StringBuilder();
        Matcher matcher = Pattern.compile("(?s)\n```" + language + "\n(.*?\n)```").matcher(text);
        while (matcher.find()) lines.append(matcher.group(1));
        return lines.toString().split("\n");
    }

    private static Method method(String name) {
        for (Method method : DiagramOdds.class.getDeclaredMethods()) {
            if (method.getName().equals(name) && Modifier.isPublic(method.getModifiers())) return method;
        }
        return null;
    }

    private Object argument(String text) {
        if (text.equals("true") || text.equals("false")) return Boolean.valueOf(text);
        return numbers.containsKey(text) ? numbers.get(text) : Integer.decode(text);
    }

    private Object[] arguments(String text) {
        String[] parts = text.isEmpty() ? new String[0] : text.split(", ");
        Object[] arguments = new Object[parts.length];
        for (int i = 0; i < parts.length; i++) arguments[i] = argument(parts[i]);
        return arguments;
    }

    private String answer(String name, String arguments) throws IllegalAccessException {
        try {
            Object answer = method(name).invoke(x, arguments(arguments));
            return answer == null ? "no answer" : answer.toString();
        } catch (InvocationTargetException e) {
            return "throws " + e.getCause().getClass().getSimpleName();
        }
    }

    private String lastPrint() {
        StringBuilder text = new StringBuilder();
        for (int i = 0; x.printed(i) != DiagramOdds.NONE; i++) text.append((char) x.printed(i));
        return text.toString();
    }

    private static String fed(Object[] words, int bytes) {
        StringBuilder text = new StringBuilder();
        for (int i = 0; i < bytes && i < 20; i++) text.append((char) ((Integer) words[i / 4] >>> 24 - i % 4 * 8 & 255));
        return text.toString();
    }

    private void make(String line) throws IllegalAccessException {
        if (line.equals(NEW_OBJECT)) {
            x = new DiagramOdds();
            return;
        }
        Matcher call = CALL.matcher(line);
        boolean understood = call.matches() && method(call.group(2)) != null;
        Check.due("a call and its answer: " + line, understood ? 1 : 0, 1);
        if (!understood) return;
        called.add(call.group(2));
        String due = call.group(4), remark = call.group(5), answer = answer(call.group(2), call.group(3));
        Check.due(line, answer, numbers.containsKey(due) ? numbers.get(due).toString() : due);
        if (call.group(1) != null) numbers.put(call.group(1), Integer.valueOf(answer));
        if (call.group(2).equals("print")) Check.due("what is printed by " + line, lastPrint(), remark);
        if (call.group(2).equals("feed")) Check.due("what is fed by " + line, fed(arguments(call.group(3)), remark.length()), remark);
    }

    private void example(String text) throws IllegalAccessException {
        for (String line : block(text, "java")) make(line);
        Set<String> face = new TreeSet<>();
        for (Method method : DiagramOdds.class.getDeclaredMethods()) {
            if (Modifier.isPublic(method.getModifiers())) face.add(method.getName());
        }
        Check.due("calls of the example", called.toString(), face.toString());
    }

    private static void command(String text) throws IOException {
        String[] commands = block(text, "sh");
        Check.due("commands", commands.length, 1);
        Check.due("the command for the tests", commands[0], SCRIPT.toString());
        Check.due("it is there", Files.isRegularFile(SCRIPT) ? 1 : 0, 1);
        String script = Files.readString(SCRIPT);
        for (String tests : new String[] {"src/test/java/*Tests.java", "../shared/tests/*.java"}) {
            Check.due("it runs " + tests, script.contains("for test in " + tests + "; do") ? 1 : 0, 1);
        }
    }

    private static void names(String text) throws IOException {
        Set<String> named = new TreeSet<>(), there = new TreeSet<>();
        Matcher matcher = Pattern.compile("`(\\w+Tests)`").matcher(text);
        while (matcher.find()) named.add(matcher.group(1));
        try (Stream<Path> paths = Files.list(TESTS)) {
            for (Path path : (Iterable<Path>) paths::iterator) {
                String name = path.getFileName().toString();
                if (name.endsWith("Tests.java")) there.add(name.replace(".java", ""));
            }
        }
        Check.due("tests that README.md names", named.toString(), there.toString());
    }

    public static void main(String[] args) throws IOException, ReflectiveOperationException {
        String text = Files.readString(README);
        new ReadmeTests().example(text);
        command(text);
        names(text);
        Check.finish("README.md");
    }
}
