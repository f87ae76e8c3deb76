import java.io.IOException;
import java.lang.reflect.Method;
import java.lang.reflect.Modifier;
import java.nio.file.Files;
import java.nio.file.Path;
import java.util.List;
import java.util.regex.Matcher;
import java.util.regex.Pattern;
import java.util.stream.Stream;

/** What README.md says of the class is so; run in the project's folder. */
public final class ReadmeTest {
    private static final Path README = Path.of("README.md");
    private static final Path TESTS = Path.of("src/test/java");
    private static final Pattern CALL = Pattern.compile("solver\\.(\\w+)\\(([^)]*)\\);");
    private static final Pattern ANSWER = Pattern.compile("// (-?\\d+)");
    private static final Pattern COMMA = Pattern.compile("\\s*,\\s*");

    private final Check check = new Check();
    private final WordSolver solver = new WordSolver();
    private int answers;

    public static void main(String[] args) throws IOException, ReflectiveOperationException {
        String text = Files.readString(README);
        ReadmeTest test = new ReadmeTest();
        test.exampleAnswersSo(text);
        test.everyCallIsTold(text);
        test.everyTestIsTold(text);
        test.check.end();
    }

    /** A comment of the example begins with what the last call of its line answers. */
    private void exampleAnswersSo(String text) throws ReflectiveOperationException {
        String example = text.substring(text.indexOf("```java\n"));
        example = example.substring(0, example.indexOf("\n```\n"));
        for (String line : example.lines().toList()) {
            Matcher call = CALL.matcher(line);
            long got = 0;
            while (call.find()) {
                got = answerOf(call.group(1), call.group(2));
            }
            Matcher due = ANSWER.matcher(line);
            if (due.find()) {
                answers++;
                check.due(line, got, Long.parseLong(due.group(1)));
            }
        }
        check.due("answers that the example tells", answers >= 10, true);
    }

    private long answerOf(String name, String arguments) throws ReflectiveOperationException {
        List<String> numbers = COMMA.splitAsStream(arguments).filter(number -> !number.isEmpty()).toList();
        for (Method method : WordSolver.class.getMethods()) {
            if (method.getName().equals(name) && method.getParameterCount() == numbers.size()) {
                return ((Number) method.invoke(solver, typed(method, numbers))).longValue();
            }
        }
        throw new AssertionError("no call " + name);
    }

    private static Object[] typed(Method method, List<String> numbers) {
        Object[] typed = new Object[numbers.size()];
        for (int i = 0; i < typed.length; i++) {
            if (method.getParameterTypes()[i] == long.class) {
                typed[i] = Long.valueOf(numbers.get(i));
            } else {
                typed[i] = Integer.valueOf(numbers.get(i));
            }
        }
        return typed;
    }

    private void everyCallIsTold(String text) {
        for (Method method : WordSolver.class.getDeclaredMethods()) {
            if (Modifier.isPublic(method.getModifiers())) {
                check.due("told: " + method.getName(), text.contains("| `" + method.getName() + "("), true);
            }
        }
    }

    private void everyTestIsTold(String text) throws IOException {
        try (Stream<Path> files = Files.list(TESTS)) {
            for (Path file : files.toList()) {
                String name = file.getFileName().toString().replace(".java", "");
                check.due("told: " + name, text.contains("`" + name + "`"), true);
            }
        }
    }
}
