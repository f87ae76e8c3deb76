import java.io.IOException;
import java.lang.reflect.Field;
import java.lang.reflect.Method;
import java.lang.reflect.Modifier;
import java.math.BigInteger;
import java.nio.file.Files;
import java.nio.file.Path;
import java.util.ArrayList;
import java.util.List;
import java.util.regex.Matcher;
import java.util.regex.Pattern;
import java.util.stream.Stream;

/** Rules of LANGUAGE.md that can be seen in the text or counted in the class; run in the project's folder. */
public final class LanguageTest {
    private static final Path SOURCE = Path.of("src/main/java/WordSolver.java");
    private static final int LONGEST_METHOD = 60;
    private static final int MOST_PARAMETERS = 7;
    private static final int MOST_CLASSES = 12;
    private static final int MOST_FIELDS = 20;
    // In the constructor of the row of rules.
    private static final String MADE_BY_RULES =
            "[                lefts[k] = new Word();,                 rights[k] = new Word();]";

    public static void main(String[] args) throws IOException, ReflectiveOperationException {
        Check check = new Check();
        String code = withoutComments(Files.readString(SOURCE));
        check.due("imports", all(code, "import [^;]*;").toString(), "[import java.util.Arrays;]");
        check.due("package, lambda, method reference and other forms left out", all(code, "^package|->|::|"
                + "\\b(synchronized|assert|finally|try|native|volatile|yield|var|hashCode|toString|equals)\\b").toString(),
                "[]");
        check.due("library", all(code, "\\b(System|Math|Arrays|Integer|Long)\\.\\w+").stream()
                .filter(use -> !List.of("System.arraycopy", "Math.min", "Math.max", "Arrays.fill").contains(use))
                .toList().toString(), "[]");
        check.due("static fields that are not final", all(code, "static (?!final)[\\w\\[\\]]+ \\w+( =|;)").toString(),
                "[]");
        check.due("exceptions", all(code, "throw (?!new Illegal(State|Argument)Exception\\(\"[^\"]*\"\\);).*").toString(),
                "[]");
        check.due("objects that are not made by a constructor", code.lines()
                .filter(line -> line.matches(".*\\bnew\\b.*"))
                .filter(line -> !line.matches(" *throw new .*|    (    )?(private )?final \\S+ \\w+ = new .*;")).toList()
                .toString(), MADE_BY_RULES);
        check.due("texts joined by +", all(code, "\" \\+|\\+ \"").toString(), "[]");
        for (String method : code.split("\n\n")) {
            check.due("a long method: " + method.strip().lines().findFirst().orElse(""),
                    method.lines().count() > LONGEST_METHOD, false);
        }
        countMembers(check);
        check.due("reducing can take as many turns as any word may need", mostTurns().compareTo(neededTurns()) >= 0, true);
        check.end();
    }

    private static void countMembers(Check check) {
        List<Class<?>> classes = new ArrayList<>(List.of(WordSolver.class.getDeclaredClasses()));
        classes.add(WordSolver.class);
        check.due("classes: " + classes.size(), classes.size() <= MOST_CLASSES, true);
        for (Class<?> one : classes) {
            long fields = Stream.of(one.getDeclaredFields()).filter(field -> !Modifier.isStatic(field.getModifiers()))
                    .count();
            check.due("fields of " + one + ": " + fields, fields <= MOST_FIELDS, true);
            for (Method method : one.getDeclaredMethods()) {
                check.due("parameters of " + method, method.getParameterCount() <= MOST_PARAMETERS, true);
            }
        }
    }

    /** A replacement makes the word lesser, so that it never comes again; ahead of it at most 40 letters are read. */
    private static BigInteger neededTurns() {
        BigInteger words = BigInteger.valueOf(6).pow(41).subtract(BigInteger.ONE).divide(BigInteger.valueOf(5));
        return words.multiply(BigInteger.valueOf(41));
    }

    private static BigInteger mostTurns() throws ReflectiveOperationException {
        BigInteger most = BigInteger.ONE;
        for (String name : List.of("MOST_ROUNDS", "TURNS_OF_A_ROUND")) {
            Field field = Class.forName("WordSolver$Reducer").getDeclaredField(name);
            field.setAccessible(true);
            most = most.multiply(BigInteger.valueOf(field.getLong(null)));
        }
        return most;
    }

    private static String withoutComments(String text) {
        return text.replaceAll("(?s)/\\*.*?\\*/", "").replaceAll("//[^\n]*", "");
    }

    private static List<String> all(String code, String pattern) {
        List<String> found = new ArrayList<>();
        Matcher matcher = Pattern.compile(pattern, Pattern.MULTILINE).matcher(code);
        while (matcher.find()) {
            found.add(matcher.group());
        }
        return found;
    }
}
