import java.io.IOException;
import java.nio.file.Files;
import java.nio.file.Path;
import java.util.ArrayList;
import java.util.List;
import java.util.regex.Matcher;
import java.util.regex.Pattern;

/** Rules of LANGUAGE.md that can be seen in the text; run in the project's folder. */
public final class LanguageTest {
    private static final Path SOURCE = Path.of("src/main/java/WordSolver.java");
    private static final int LONGEST_METHOD = 60;

    public static void main(String[] args) throws IOException {
        Check check = new Check();
        List<String> lines = Files.readAllLines(SOURCE);
        String code = withoutComments(String.join("\n", lines));
        check.due("imports", all(code, "import [^;]*;").toString(), "[import java.util.Arrays;]");
        check.due("package, lambda, method reference and other forms left out", all(code, "^package|->|::|"
                + "\\b(synchronized|assert|finally|try|native|volatile|yield|var|hashCode|toString|equals)\\b").toString(),
                "[]");
        check.due("library", all(code, "\\b(System|Math|Arrays|Integer|Long)\\.\\w+").stream()
                .filter(use -> !List.of("System.arraycopy", "Math.min", "Math.max", "Arrays.fill").contains(use))
                .toList().toString(), "[]");
        check.due("static fields that are not final", all(code, "static (?!final)[\\w\\[\\]]+ \\w+( =|;)").toString(),
                "[]");
        check.due("exceptions", all(code, "throw (?!new Illegal(State|Argument)Exception\\(\"[^\"]*\"\\);).*").toString(),
                "[]");
        check.due("texts joined by +", all(code, "\" \\+|\\+ \"").toString(), "[]");
        for (String method : code.split("\n\n")) {
            check.due("a long method: " + method.strip().lines().findFirst().orElse(""),
                    method.lines().count() > LONGEST_METHOD, false);
        }
        check.end();
    }

    private static String withoutComments(String text) {
        return text.replaceAll("(?s)/\\*.*?\\*/", "").replaceAll("//[^\n]*", "");
    }

    private static List<String> all(String code, String pattern) {
        List<String> found = new ArrayList<>();
        Matcher matcher = Pattern.compile(pattern, Pattern.MULTILINE).matcher(code);
        while (matcher.find()) {
            found.add(matcher.group());
        }
        return found;
    }
}
