import java.lang.reflect.Array;
import java.lang.reflect.Field;
import java.lang.reflect.Modifier;
import java.util.ArrayDeque;
import java.util.Collections;
import java.util.IdentityHashMap;
import java.util.Set;

/** What a solver holds is made by its constructor, is small, and is used again by every call. */
public final class RoomTest {
    private static final long MOST_OBJECTS = 1_000;
    private static final long MOST_ELEMENTS = 150_000;

    private final Check check = new Check();

    public static void main(String[] args) throws IllegalAccessException {
        RoomTest test = new RoomTest();
        test.newObjectIsSmall();
        test.callsKeepNothingNew();
        test.check.end();
    }

    private void newObjectIsSmall() throws IllegalAccessException {
        Set<Object> held = heldBy(new WordSolver());
        check.due("objects and arrays: " + held.size(), held.size() <= MOST_OBJECTS, true);
        long elements = 0;
        for (Object object : held) {
            elements += object.getClass().isArray() ? Array.getLength(object) : fieldNumber(object);
        }
        System.out.println("a solver holds " + held.size() + " objects and arrays, " + elements + " fields and elements");
        check.due("fields and elements: " + elements, elements <= MOST_ELEMENTS, true);
    }

    /** 64 long left words, so that every row is used as far as it goes; a long count; every call of the face. */
    private void callsKeepNothingNew() throws IllegalAccessException {
        Bench bench = Bench.endless(6);
        Set<Object> before = heldBy(bench.solver);
        countDown(bench);
        askAll(bench);
        bench.begin(6);
        manyLongLefts(bench);
        askAll(bench);
        Set<Object> after = heldBy(bench.solver);
        check.due("as many objects and arrays", after.size(), before.size());
        check.due("the same ones", before.containsAll(after), true);
    }

    private void countDown(Bench bench) {
        bench.equation("10", "02").equation("20", "13").equation("32", "23").equation("34", "04");
        bench.run(4);
        check.due("a long count", bench.reduced("2".repeat(30) + "04"), "0" + "2".repeat(30) + "4");
    }

    /** They differ early, so that the matcher has nearly as many states as it ever can. */
    private void manyLongLefts(Bench bench) {
        for (int i = 0; i < 64; i++) {
            String begin = "" + i % 6 + (1 + i / 6 % 5) + (1 + i / 30);
            bench.equation(begin + "0".repeat(37), "");
        }
        bench.run(64);
        check.due("rules", bench.count(1), 64);
        check.due("the longest left word", bench.count(7), 40);
        check.due("words of 20 letters", bench.words(20), (long) Math.pow(6, 20));
    }

    private static void askAll(Bench bench) {
        bench.tell(0, "5012").tell(1, "21");
        bench.same();
        bench.words(20);
        bench.size();
        bench.index();
        bench.order();
        bench.find(12345);
        bench.reduce(1);
        bench.equation();
        bench.inverse(0, 1);
        bench.run(500);
    }

    private static Set<Object> heldBy(Object root) throws IllegalAccessException {
        Set<Object> seen = Collections.newSetFromMap(new IdentityHashMap<>());
        ArrayDeque<Object> todo = new ArrayDeque<>();
        seen.add(root);
        todo.add(root);
        while (!todo.isEmpty()) {
            Object object = todo.remove();
            if (object instanceof Object[] row) {
                for (Object element : row) {
                    look(element, seen, todo);
                }
            } else if (!object.getClass().isArray()) {
                for (Field field : object.getClass().getDeclaredFields()) {
                    if (!Modifier.isStatic(field.getModifiers()) && !field.getType().isPrimitive()) {
                        field.setAccessible(true);
                        look(field.get(object), seen, todo);
                    }
                }
            }
        }
        return seen;
    }

    private static void look(Object object, Set<Object> seen, ArrayDeque<Object> todo) {
        if (object != null && seen.add(object)) {
            todo.add(object);
        }
    }

    private static int fieldNumber(Object object) {
        int number = 0;
        for (Field field : object.getClass().getDeclaredFields()) {
            number += Modifier.isStatic(field.getModifiers()) ? 0 : 1;
        }
        return number;
    }
}
