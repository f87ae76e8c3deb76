/** Each promise of the document: ordinary and wrong inputs; all its edges are in PromiseEdgesTest. */
public final class PromisesTest {
    private static final int[] NOT_A_WORD = {-1, 2, 3, Integer.MIN_VALUE, Integer.MAX_VALUE};

    private final Check check = new Check();

    public static void main(String[] args) {
        PromisesTest test = new PromisesTest();
        test.newObject();
        test.begin();
        test.letter();
        test.erase();
        test.equation();
        test.inverse();
        test.run();
        test.reduce();
        test.same();
        test.at();
        test.words();
        test.size();
        test.find();
        test.index();
        test.order();
        test.count();
        test.check.end();
    }

    /** Promise 1. */
    private void newObject() {
        Bench solver = new Bench();
        int[] due = {1, 0, 0, 0, 1, 0, 0, 0, 0};
        for (int what = 0; what < due.length; what++) {
            check.due("new, count " + what, solver.count(what), due[what]);
        }
        check.due("new, at", solver.at(0, 0), -1);
        check.due("new, same", solver.same(), 1);
        check.due("new, run", solver.run(500), 1);
        check.due("new, size", solver.size(), -1);
        check.due("new, words", solver.words(20), 1);
        check.due("new, index", solver.index(), 0);
        check.due("new, order", solver.order(), 1);
        check.due("new, letter", solver.letter(0, 0), 1);
        check.throwsArgument("new, letter 1", () -> solver.letter(0, 1));
        check.due("new, begin", solver.begin(1), 0);
    }

    /** Promise 2. */
    private void begin() {
        Bench bench = Bench.triangle().equation("0", "1").tell(0, "01").tell(1, "1");
        bench.run(1);
        String before = bench.counts();
        for (int n : new int[] {0, 7, -1, Integer.MIN_VALUE, Integer.MAX_VALUE}) {
            check.throwsArgument("begin " + n, () -> bench.begin(n));
            check.due("wrong begin, counts", bench.counts(), before);
        }
        int rules = bench.count(1);
        check.due("begin", bench.begin(6), rules);
        check.due("begin, counts", bench.counts(), "6 0 0 0 1 0 0 0 0");
        check.due("begin, words", bench.word(0) + bench.word(1), "");
        check.due("begin, words(2)", bench.words(2), 36);
        check.due("begin again", bench.begin(1), 0);
        check.due("begin again, words(2)", bench.words(2), 1);

        Bench stopped = Bench.stopped();
        check.due("stopped", stopped.count(4), 2);
        check.due("begin, stopped", stopped.begin(2), 1);
        check.due("begin, no longer stopped", stopped.count(4), 1);
        check.due("begin, equation", stopped.equation(), 1);
    }

    /** Promise 3. */
    private void letter() {
        Bench solver = new Bench(6);
        for (int i = 0; i < 40; i++) {
            check.due("letter", solver.letter(0, i % 6), i + 1);
        }
        check.due("letter 41", solver.letter(0, 0), -1);
        check.due("letter 41, length", solver.count(5), 40);
        for (int i = 0; i < 40; i++) {
            check.due("letter, at", solver.at(0, i), i % 6);
        }
        check.due("letter of B", solver.letter(1, 5), 1);
        for (int letter : new int[] {-1, 6, Integer.MIN_VALUE, Integer.MAX_VALUE}) {
            check.throwsArgument("letter " + letter + " of A, which is full", () -> solver.letter(0, letter));
            check.throwsArgument("letter " + letter + " of B", () -> solver.letter(1, letter));
        }
        for (int which : NOT_A_WORD) {
            check.throwsArgument("letter of " + which, () -> solver.letter(which, 0));
        }
        check.due("letter, lengths", solver.count(5) * 100 + solver.count(6), 4001);
        check.due("letter, stopped", Bench.stopped().letter(1, 1), 1);
    }

    /** Promise 4. */
    private void erase() {
        Bench bench = new Bench(3).tell(0, "012").tell(1, "21");
        for (int which : NOT_A_WORD) {
            check.throwsArgument("erase " + which, () -> bench.erase(which));
        }
        check.due("erase B", bench.erase(1), 2);
        check.due("erase B, words", bench.word(0) + "," + bench.word(1), "012,");
        check.due("erase A", bench.erase(0), 3);
        check.due("erase A again", bench.erase(0), 0);
    }

    /** Promise 5. */
    private void equation() {
        Bench bench = new Bench(2).tell(0, "01").tell(1, "1");
        check.due("equation", bench.equation(), 1);
        check.due("equation, words", bench.word(0) + bench.word(1), "");
        check.due("equation of nothing", bench.equation(), 2);
        bench.tell(1, "00");
        check.due("equation", bench.equation(), 3);
        check.due("run", bench.run(1), 0);
        check.due("the first is taken first", bench.rules(), "01>1");
        bench.run(2);
        check.due("then the others", bench.rules(), "01>1 00>");

        Bench stopped = Bench.stopped().tell(0, "1");
        check.throwsState("equation, stopped", () -> stopped.equation());
        check.due("equation, stopped, A", stopped.word(0), "1");
    }

    /** Promise 6. */
    private void inverse() {
        Bench bench = new Bench(3).tell(0, "01").tell(1, "2");
        check.due("inverse", bench.inverse(0, 2), 2);
        check.due("inverse of itself", bench.inverse(1, 1), 4);
        check.due("inverse, words", bench.word(0) + "," + bench.word(1), "01,2");
        bench.run(2);
        check.due("a b first, then b a", bench.rules(), "02> 20>");
        check.due("run", bench.run(500), 1);
        check.due("inverse, rules", bench.rules(), "02> 20> 11>");
        for (int letter : new int[] {-1, 3, Integer.MIN_VALUE, Integer.MAX_VALUE}) {
            check.throwsArgument("inverse of " + letter, () -> bench.inverse(letter, 0));
            check.throwsArgument("inverse by " + letter, () -> bench.inverse(0, letter));
        }
        check.due("wrong inverse, waiting", bench.count(2), 0);
        Bench stopped = Bench.stopped();
        check.throwsState("inverse, stopped", () -> stopped.inverse(0, 1));
        check.throwsState("wrong inverse, stopped", () -> stopped.inverse(0, 9));
    }

    /** Promise 7; the ways to be stopped are in TermEdgesTest. */
    private void run() {
        Bench bench = new Bench(2).equation("000", "").equation("11", "").equation("101", "00");
        check.due("run 0", bench.run(0), 0);
        check.due("run 0, steps", bench.count(3), 0);
        for (int n : new int[] {-1, 501, Integer.MIN_VALUE, Integer.MAX_VALUE}) {
            check.throwsArgument("run " + n, () -> bench.run(n));
        }
        check.due("run 28", bench.run(28), 0);
        check.due("run 28, steps", bench.count(3), 28);
        check.due("run 500", bench.run(500), 1);
        check.due("no step when none waits", bench.count(3), 29);
        bench.equation();
        check.due("an equation waits again", bench.run(0), 0);
        check.due("run 1", bench.run(1), 1);
        check.due("a step that changes nothing counts", bench.count(3), 30);

        Bench stopped = Bench.stopped();
        check.due("stopped, run", stopped.run(500), 2);
        check.due("stopped, no more steps", stopped.count(3), 1);
        check.throwsArgument("stopped, run 501", () -> stopped.run(501));
    }

    /** Promise 8. */
    private void reduce() {
        Bench bench = Bench.triangle().tell(0, "0000").tell(1, "1011");
        for (int which : NOT_A_WORD) {
            check.throwsArgument("reduce " + which, () -> bench.reduce(which));
        }
        check.due("reduce A", bench.reduce(0), 1);
        check.due("reduce A, words", bench.word(0) + "," + bench.word(1), "0,1011");
        check.due("reduce B", bench.reduce(1), 2);
        check.due("reduce B, words", bench.word(0) + "," + bench.word(1), "0,10");
        check.due("reduce to nothing", bench.tell(1, "1001").reduce(1), 1);

        Bench first = new Bench(3).equation("012", "").equation("11", "2").equation("120", "1");
        first.run(3);
        check.due("rules that are not all", first.count(4), 0);
        check.due("what ends first goes first", first.reduced("0120"), "0");
        Bench anew = new Bench(3).equation("22", "1").equation("01", "");
        anew.run(2);
        check.due("looked through anew", anew.reduced("0220"), "0");
        check.due("looked through anew, right word first", anew.reduced("0222"), "2");
        check.due("stopped, reduce", Bench.stopped().reduced("1" + "0".repeat(19) + "11"), "0".repeat(21) + "1");
    }

    /** Promise 9. */
    private void same() {
        Bench bench = Bench.triangle().tell(0, "0101").tell(1, "1010");
        check.due("same", bench.same(), 1);
        check.due("same, words", bench.word(0) + "," + bench.word(1), "0101,1010");
        check.due("not same", bench.tell(1, "10").same(), 0);
        Bench waits = new Bench(2).equation("00", "").equation("11", "");
        waits.run(1);
        check.due("same, not complete", waits.tell(0, "0").tell(1, "000").same(), 1);
        check.due("not known", waits.tell(1, "11").same(), -1);
        Bench stopped = Bench.stopped().tell(0, "1");
        check.due("not known, stopped", stopped.same(), -1);
        check.due("same, stopped", stopped.tell(1, "1").same(), 1);
    }

    /** Promise 10. */
    private void at() {
        Bench bench = Bench.free().tell(0, "03").tell(1, "2");
        check.due("at, A", bench.at(0, 0) * 10 + bench.at(0, 1), 3);
        check.due("at, B", bench.at(1, 0), 2);
        check.due("at, left word", bench.at(6, 0) * 10 + bench.at(6, 1), 23);
        for (int i : new int[] {-1, 2, 40, Integer.MIN_VALUE, Integer.MAX_VALUE}) {
            check.due("at 0, " + i, bench.at(0, i), -1);
            check.due("at 1, " + i, bench.at(1, i), -1);
            check.due("at 8, " + i, bench.at(8, i), -1);
            check.due("at 9, " + i, bench.at(9, i), -1);
        }
        check.due("at, an empty right word", bench.at(9, 0), -1);
        for (int what : new int[] {-1, -2, 10, 11, 130, 131, Integer.MIN_VALUE, Integer.MAX_VALUE}) {
            check.due("at " + what, bench.at(what, 0), -1);
        }
        bench.begin(4);
        check.due("at, no rules", bench.at(2, 0), -1);
    }

    /** Promise 11. */
    private void words() {
        Bench free = Bench.free();
        long due = 4;
        check.due("words of 0", free.words(0), 1);
        for (int n = 1; n <= 20; n++) {
            check.due("words of " + n, free.words(n), due);
            due *= 3;
        }
        for (int n : new int[] {-1, 21, Integer.MIN_VALUE, Integer.MAX_VALUE}) {
            check.throwsArgument("words of " + n, () -> free.words(n));
        }
        check.due("words, no rules", new Bench(6).words(20), 3656158440062976L);
        Bench before = new Bench(2).equation("01", "");
        check.due("words, before the rule", before.words(2), 4);
        before.run(1);
        check.due("words, behind the rule", before.words(2), 3);
        check.due("words, stopped", Bench.stopped().words(20), 1 << 20);
    }

    /** Promise 12. */
    private void size() {
        check.due("size", Bench.triangle().size(), 6);
        check.due("size, infinite", Bench.free().size(), -1);
        Bench bench = new Bench(1);
        check.due("size, no rules", bench.size(), -1);
        bench.equation("0".repeat(40), "").run(500);
        check.due("size 40", bench.size(), 40);
        bench.equation("0", "").run(500);
        check.due("size 1", bench.size(), 1);
        // Rows of ones and zeros that sink: the walk meets again, but never comes back.
        Bench sinking = new Bench(3).equation("000", "").equation("111", "").equation("222", "").equation("10", "01")
                .equation("20", "02").equation("21", "12");
        sinking.run(500);
        check.due("size 27", sinking.size(), 27);
        Bench partly = new Bench(3).equation("000", "").equation("10", "").equation("20", "");
        partly.run(3);
        check.due("size, endless behind the beginning", partly.size(), -1);
    }

    /** Promise 13. */
    private void find() {
        Bench bench = Bench.triangle();
        String[] due = {"", "0", "1", "00", "01", "10"};
        for (int k = 0; k < due.length; k++) {
            check.due("find " + k, bench.find(k), due[k].length());
            check.due("find " + k + ", A", bench.word(0), due[k]);
        }
        bench.tell(0, "0110");
        for (long k : new long[] {6, -1, 1L << 32, Long.MIN_VALUE, Long.MAX_VALUE}) {
            check.due("find " + k, bench.find(k), -1);
            check.due("find " + k + ", A", bench.word(0), "0110");
        }
        Bench one = new Bench(1);
        check.due("find 20", one.find(20), 20);
        check.due("find 21, too long", one.find(21), -1);
        check.due("find 21, A", one.count(5), 20);
        long all = 0;
        Bench six = new Bench(6).tell(1, "5");
        for (int n = 0; n <= 20; n++) {
            all += six.words(n);
        }
        check.due("find the last", six.find(all - 1), 20);
        check.due("find the last, A", six.word(0), "5".repeat(20));
        check.due("find one more", six.find(all), -1);
        check.due("find, B", six.word(1), "5");
    }

    /** Promise 14. */
    private void index() {
        Bench bench = Bench.triangle();
        for (int k = 0; k < 6; k++) {
            bench.find(k);
            check.due("index", bench.index(), k);
        }
        bench.tell(0, "1010101");
        check.due("index, reduced", bench.index(), 3);
        check.due("index, A", bench.word(0), "1010101");
        Bench six = new Bench(6).tell(0, "5".repeat(20));
        check.due("index of 20 letters", six.index(), 4387390128075570L);
        check.due("index of 21 letters", six.tell(0, "0".repeat(21)).index(), -1);
        Bench half = new Bench(2).equation("01", "");
        half.run(1);
        check.due("index of 40 letters, reduced", half.tell(0, "01".repeat(20)).index(), 0);
        Bench free = Bench.free();
        for (long k = 1; k < 1000000000L; k = k * 3 + 1) {
            free.find(k);
            check.due("index of find " + k, free.index(), k);
        }
    }

    /** Promise 15. */
    private void order() {
        Bench bench = Bench.triangle();
        check.due("order of nothing", bench.tell(0, "").order(), 1);
        check.due("order 3", bench.tell(0, "0").order(), 3);
        check.due("order 2", bench.tell(0, "01").order(), 2);
        check.due("order 1", bench.tell(0, "0101").order(), 1);
        check.due("order, A", bench.word(0), "0101");
        check.due("order of 38 letters", bench.tell(0, "0".repeat(37) + "1").order(), 2);
        check.due("order of 40 letters, then 41", bench.tell(0, "0".repeat(39) + "1").order(), -1);
        check.due("order of 40 letters", bench.tell(0, "01".repeat(20)).order(), 1);

        Bench cyclic = new Bench(1).equation("0".repeat(40), "");
        cyclic.run(500);
        check.due("order 40", cyclic.tell(0, "0").order(), 40);
        check.due("order, too long ahead of its reducing", cyclic.tell(0, "0".repeat(39)).order(), -1);
        check.due("order 2, just long enough", cyclic.tell(0, "0".repeat(20)).order(), 2);
        check.due("order 5", cyclic.tell(0, "0".repeat(8)).order(), 5);
        check.due("order, too long", cyclic.tell(0, "0".repeat(16)).order(), -1);
        check.due("order, endless", Bench.free().tell(0, "02").order(), -1);
        Bench still = new Bench(2).equation("00", "0");
        still.run(500);
        check.due("order, never", still.tell(0, "0").order(), -1);
        orderOf200();
    }

    /** Letters that move one another round: 0 counts to 8, 1 to 25, and both pass each other. */
    private void orderOf200() {
        for (int length : new int[] {24, 25, 26}) {
            Bench bench = new Bench(2).equation("0".repeat(8), "").equation("1".repeat(length), "").equation("10", "01");
            bench.run(500);
            check.due("complete", bench.count(4), 1);
            long due = length == 24 ? 24 : length == 25 ? 200 : 104;
            check.due("order with " + length, bench.tell(0, "01").order(), due);
        }
        Bench above = new Bench(2).equation("0".repeat(9), "").equation("1".repeat(25), "").equation("10", "01");
        above.run(500);
        check.due("order 225", above.tell(0, "01").order(), -1);
    }

    /** Promise 16. */
    private void count() {
        Bench bench = Bench.triangle().equation("0", "1").tell(0, "101").tell(1, "0");
        check.due("counts", bench.counts(), "2 6 1 29 0 3 1 3 0");
        check.due("run", bench.run(1), 0);
        check.due("rules, one new", bench.rules(), "000> 1>0");
        check.due("counts, five gone", bench.counts(), "2 2 5 30 0 3 1 3 5");
        for (int what : new int[] {-1, 9, 10, Integer.MIN_VALUE, Integer.MAX_VALUE}) {
            check.due("count " + what, bench.count(what), -1);
        }
        check.due("counts, stopped", Bench.stopped().counts(), "2 1 0 1 2 0 0 21 0");
    }
}
