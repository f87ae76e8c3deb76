import java.lang.reflect.Constructor;
import java.lang.reflect.Field;
import java.lang.reflect.Method;
import java.lang.reflect.Modifier;
import java.util.List;
import java.util.TreeSet;

/** The class shows the document's face, and nothing else. */
public final class FaceTest {
    private static final List<String> METHODS = List.of(
            "public int begin(int) throws IllegalArgumentException",
            "public int letter(int,int) throws IllegalArgumentException",
            "public int erase(int) throws IllegalArgumentException",
            "public int equation() throws IllegalStateException",
            "public int inverse(int,int) throws IllegalStateException,IllegalArgumentException",
            "public int run(int) throws IllegalArgumentException",
            "public int reduce(int) throws IllegalArgumentException",
            "public int same()",
            "public int at(int,int)",
            "public long words(int) throws IllegalArgumentException",
            "public long size()",
            "public int find(long)",
            "public long index()",
            "public int order()",
            "public int count(int)");

    public static void main(String[] args) {
        Check check = new Check();
        Class<?> face = WordSolver.class;
        check.due("modifiers", Modifier.toString(face.getModifiers()), "public final");

        TreeSet<String> names = new TreeSet<>();
        TreeSet<String> shown = new TreeSet<>();
        for (Method method : face.getDeclaredMethods()) {
            if (!Modifier.isPrivate(method.getModifiers())) {
                shown.add(plain(method.toString()));
                names.add(method.getName());
            }
        }
        check.due("methods", shown.toString(), new TreeSet<>(METHODS).toString());
        for (Method method : face.getDeclaredMethods()) {
            if (Modifier.isPrivate(method.getModifiers())) {
                check.due("a private name of the face: " + method.getName(), names.contains(method.getName()), false);
            }
        }
        for (Constructor<?> constructor : face.getDeclaredConstructors()) {
            check.due("constructor", plain(constructor.toString()), "public WordSolver()");
        }
        for (Field field : face.getDeclaredFields()) {
            if (!Modifier.isPrivate(field.getModifiers())) {
                check.due("field", field.toString(), "public static final int WordSolver.NONE");
            }
        }
        for (Class<?> inside : face.getDeclaredClasses()) {
            int modifiers = inside.getModifiers();
            check.due("static " + inside, Modifier.isStatic(modifiers), true);
            check.due("shown " + inside, Modifier.isPublic(modifiers) || Modifier.isProtected(modifiers), false);
        }
        check.due("NONE", WordSolver.NONE, -1);
        check.end();
    }

    private static String plain(String text) {
        return text.replace("java.lang.", "").replace("WordSolver.", "");
    }
}
