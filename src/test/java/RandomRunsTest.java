import java.util.Random;

/**
 * Random runs of calls, of many kinds, on a WordSolver and on a PlainSolver: all answers are the same. A
 * run ends with the object's 512th call, as what is answered thereafter is free.
 */
public final class RandomRunsTest {
    private static final int RUNS = 400;
    private static final int CALLS = 90;
    // Among all words of six letters: the number of the first of four, and how many of four, of five there are.
    private static final int FIRST_OF_FOUR = 259;
    private static final int WORDS_OF_FOUR = 1296;
    private static final int WORDS_OF_FIVE = 7776;

    private final Check check = new Check();
    private final Random random;
    private final Bench solver = new Bench();
    private final PlainSolver plain = new PlainSolver();
    private final String name;
    private int letters = 1;
    private int endState;
    private int gone;
    private boolean wholeSeen;

    private RandomRunsTest(int seed) {
        random = new Random(seed);
        name = "run " + seed + ": ";
    }

    public static void main(String[] args) {
        int runs = args.length > 0 ? Integer.parseInt(args[0]) : RUNS;
        int first = args.length > 1 ? Integer.parseInt(args[1]) : 0;
        int[] states = new int[5];
        boolean good = true;
        int gone = 0;
        int whole = 0;
        for (int seed = first; seed < first + runs && good; seed++) {
            RandomRunsTest test = new RandomRunsTest(seed);
            test.runAll();
            states[test.endState]++;
            gone += test.gone;
            whole += test.wholeSeen ? 1 : 0;
            good = test.check.isGood();
        }
        System.out.println("ended waiting " + states[0] + ", complete " + states[1] + ", stopped by a word " + states[2]
                + ", a rule " + states[3] + ", an equation " + states[4] + "; rules gone " + gone
                + "; seen to their last rule " + whole);
        if (!good || args.length == 0 && !isEachThere(states)) {
            System.exit(1);
        }
    }

    /** The runs would show less than they seem to if they never came to one of the states. */
    private static boolean isEachThere(int[] states) {
        for (int state = 0; state < states.length; state++) {
            if (states[state] == 0) {
                System.out.println("no run ended with " + state + " as run() answers");
                return false;
            }
        }
        return true;
    }

    private void runAll() {
        if (random.nextInt(10) == 0) {
            tellMany();
        } else {
            tellFew();
        }
        if (random.nextInt(3) == 0) {
            run(200);
        }
        lookAtAll();
    }

    private void tellFew() {
        begin(1 + random.nextInt(6));
        int equations = 1 + random.nextInt(5);
        int longest = 1 + random.nextInt(random.nextInt(4) == 0 ? 14 : 6);
        if (random.nextBoolean()) {
            for (int i = 0; i < letters; i++) {
                inverse(i, random.nextInt(letters));
            }
        }
        for (int i = 0; i < equations; i++) {
            tell(0, random.nextInt(longest + 1));
            tell(1, random.nextInt(longest + 1));
            equation();
        }
        for (int i = 0; i < CALLS; i++) {
            anyCall();
        }
    }

    /** So many left words that many of these runs are stopped by a rule or by an equation too many. */
    private void tellMany() {
        begin(6);
        int equations = 60 + random.nextInt(35);
        int lefts = random.nextBoolean() ? WORDS_OF_FOUR : WORDS_OF_FOUR + WORDS_OF_FIVE;
        for (int i = 0; i < equations; i++) {
            sameAnswer("find", FIRST_OF_FOUR + random.nextInt(lefts), 0);
            if (random.nextBoolean()) {
                letter(1, random.nextInt(letters));
            }
            sameAnswer("equation", 0, 0);
        }
        run(50 + random.nextInt(50));
        for (int i = 0; i < CALLS / 6; i++) {
            anyCall();
        }
    }

    private void anyCall() {
        switch (random.nextInt(24)) {
            case 0, 1, 2 -> run(random.nextInt(12));
            case 3 -> run(random.nextInt(60) == 0 ? random.nextInt(501) : random.nextInt(30));
            case 4, 5 -> letter(random.nextInt(2), random.nextInt(letters));
            case 6 -> tell(random.nextInt(2), random.nextInt(15));
            case 7 -> erase(random.nextInt(2));
            case 8 -> same("reduce", 0, random.nextInt(2));
            case 9 -> same("same", 0, 0);
            case 10, 11 -> same("at", random.nextInt(30) - 1, random.nextInt(8) - 1);
            case 12 -> same("words", random.nextInt(10) == 0 ? random.nextInt(23) - 1 : random.nextInt(6), 0);
            case 13 -> same("size", 0, 0);
            case 14, 15 -> find(random.nextInt(4) == 0 ? random.nextInt(100000) : random.nextInt(40) - 2);
            case 16 -> same("index", 0, 0);
            case 17 -> same("order", 0, 0);
            case 18, 19 -> same("count", random.nextInt(11) - 1, 0);
            case 20 -> wrongCall();
            case 21 -> {
                if (random.nextInt(8) == 0) {
                    equation();
                }
            }
            case 22 -> {
                if (random.nextInt(8) == 0) {
                    inverse(random.nextInt(letters), random.nextInt(letters));
                }
            }
            default -> {
                if (random.nextInt(40) == 0) {
                    begin(1 + random.nextInt(6));
                }
            }
        }
    }

    private void wrongCall() {
        switch (random.nextInt(6)) {
            case 0 -> begin(random.nextBoolean() ? 0 : 7);
            case 1 -> letter(random.nextInt(4) - 1, random.nextInt(10) - 2);
            case 2 -> erase(random.nextBoolean() ? -1 : 2);
            case 3 -> inverse(random.nextInt(3) - 1, letters);
            case 4 -> run(random.nextBoolean() ? -1 : 501);
            default -> same("reduce", 0, random.nextBoolean() ? -1 : 2);
        }
    }

    private void lookAtAll() {
        endState = plain.count(4);
        gone = plain.count(8);
        for (int what = 0; what <= 8; what++) {
            same("count", what, 0);
        }
        same("size", 0, 0);
        lookAtRules();
        wholeSeen = solver.callsLeft() > 0;
        same("begin", 3, 0);
    }

    /** From any of them on, as the calls may not be enough for all. */
    private void lookAtRules() {
        int words = 2 * plain.count(1);
        int first = words == 0 ? 0 : random.nextInt(words);
        for (int seen = 0; seen < words; seen++) {
            int what = 2 + (first + seen) % words;
            int i = 0;
            while (plain.at(what, i) >= 0) {
                same("at", what, i);
                i++;
            }
            same("at", what, i);
        }
    }

    private void begin(int n) {
        same("begin", n, 0);
        letters = plain.count(0);
    }

    private void tell(int which, int length) {
        erase(which);
        for (int i = 0; i < length; i++) {
            letter(which, random.nextInt(letters));
        }
    }

    private void letter(int which, int letter) {
        same("letter", which, letter);
    }

    private void erase(int which) {
        same("erase", which, 0);
    }

    private void equation() {
        same("equation", 0, 0);
    }

    private void inverse(int x, int y) {
        same("inverse", x, y);
    }

    private void run(int n) {
        same("run", n, 0);
    }

    private void find(long k) {
        if (solver.callsLeft() > 0) {
            String got = Check.outcome(() -> solver.find(k));
            check.due(name + "find(" + k + ")", got, Check.outcome(() -> plain.find(k)));
            sameWords();
        }
    }

    private void same(String call, int x, int y) {
        sameAnswer(call, x, y);
        if (call.equals("reduce") || call.equals("equation")) {
            sameWords();
        }
    }

    /** Makes the call on both, if one is left. */
    private void sameAnswer(String call, int x, int y) {
        if (solver.callsLeft() > 0) {
            String got = Check.outcome(() -> onSolver(call, x, y));
            String want = Check.outcome(() -> onPlain(call, x, y));
            check.due(name + call + "(" + x + ", " + y + ")", got, want);
        }
    }

    private void sameWords() {
        for (int which = 0; which < 2; which++) {
            same("count", 5 + which, 0);
            for (int i = 0; i < plain.count(5 + which); i++) {
                same("at", which, i);
            }
        }
    }

    private long onSolver(String call, int x, int y) {
        return switch (call) {
            case "begin" -> solver.begin(x);
            case "letter" -> solver.letter(x, y);
            case "erase" -> solver.erase(x);
            case "equation" -> solver.equation();
            case "inverse" -> solver.inverse(x, y);
            case "run" -> solver.run(x);
            case "reduce" -> solver.reduce(y);
            case "same" -> solver.same();
            case "at" -> solver.at(x, y);
            case "words" -> solver.words(x);
            case "size" -> solver.size();
            case "find" -> solver.find(x);
            case "index" -> solver.index();
            case "order" -> solver.order();
            default -> solver.count(x);
        };
    }

    private long onPlain(String call, int x, int y) {
        return switch (call) {
            case "begin" -> plain.begin(x);
            case "letter" -> plain.letter(x, y);
            case "erase" -> plain.erase(x);
            case "equation" -> plain.equation();
            case "inverse" -> plain.inverse(x, y);
            case "run" -> plain.run(x);
            case "reduce" -> plain.reduce(y);
            case "same" -> plain.same();
            case "at" -> plain.at(x, y);
            case "words" -> plain.words(x);
            case "size" -> plain.size();
            case "find" -> plain.find(x);
            case "index" -> plain.index();
            case "order" -> plain.order();
            default -> plain.count(x);
        };
    }
}
