import java.util.Random;

/** Reducing goes on as long as a left word stands in the word, however many replacements that takes. */
public final class ReducingTest {
    private static final int SYSTEMS = 400;
    private static final int WORDS = 6;
    private static final int MOST_REPLACEMENTS = 30_000;
    // So many that the solver begins to remember what it found.
    private static final int MANY_REPLACEMENTS = 1_000;

    // Each counts a row of digits down: 1 and 2, 1 and 2, 1 to 3, 1 to 4, 11 and 12.
    private static final String[][] COUNTERS = {
        {"10", "02", "20", "13", "32", "23", "34", "04"},
        {"10", "01", "20", "13", "31", "23", "34", "04"},
        {"10", "03", "20", "15", "30", "25", "53", "35", "54", "04"},
        {"10", "04", "20", "15", "30", "25", "40", "35", "54", "45", "50", "00"},
        {"110", "012", "120", "113", "312", "123", "34", "04"}};
    private static final String[][] DIGITS = {{"1", "2"}, {"1", "2"}, {"1", "2", "3"}, {"1", "2", "3", "4"},
        {"11", "12"}};

    private final Check check = new Check();
    private int compared;
    private int many;

    public static void main(String[] args) {
        ReducingTest test = new ReducingTest();
        test.binaryDigits();
        test.moreThanALongCanCount();
        test.digitsOfTwoLetters();
        test.inSteps();
        test.inSame();
        test.inIndex();
        test.inOrder();
        test.afterOtherRules();
        for (int seed = 0; seed < SYSTEMS; seed++) {
            test.compareWithPlain(new Random(seed));
        }
        System.out.println(test.compared + " words compared, " + test.many + " with many replacements");
        test.check.due("words with many replacements", test.many > 100, true);
        test.check.end();
    }

    private static Bench counter(int which) {
        String[] words = COUNTERS[which];
        Bench bench = new Bench(6);
        for (int i = 0; i < words.length; i += 2) {
            bench.equation(words[i], words[i + 1]);
        }
        bench.run(words.length / 2);
        return bench;
    }

    private void binaryDigits() {
        check.due("rules", counter(0).rules(), "10>02 20>13 32>23 34>04");
        for (int digits = 1; digits <= 38; digits++) {
            String twos = "2".repeat(digits);
            check.due(digits + " digits", counter(0).reduced(twos + "04"), "0" + twos + "4");
        }
    }

    /** Of thirty-eight digits these are more than 4^38 replacements. */
    private void moreThanALongCanCount() {
        check.due("rules", counter(3).rules(), "10>04 20>15 30>25 40>35 54>45 50>00");
        for (int digits = 2; digits <= 38; digits++) {
            check.due(digits + " digits", counter(3).reduced("4".repeat(digits) + "00"),
                    "0" + "4".repeat(digits - 1) + "35");
        }
    }

    private void digitsOfTwoLetters() {
        check.due("rules", counter(4).rules(), "110>012 120>113 312>123 34>04");
        for (int digits = 1; digits <= 19; digits++) {
            String greatest = "12".repeat(digits);
            check.due(digits + " digits", counter(4).reduced(greatest + "04"), "0" + greatest + "4");
        }
    }

    private void inSteps() {
        Bench bench = new Bench(5).equation("10", "02").equation("20", "13").equation("32", "23").equation("34", "04")
                .equation("2".repeat(30) + "04", "0" + "2".repeat(30) + "4")
                .equation("2".repeat(31) + "04", "4");
        bench.run(4);
        String before = bench.rules();
        bench.run(1);
        check.due("no rule of two words that are the same reduced", bench.rules(), before);
        bench.run(1);
        check.due("the new rule is reduced", bench.rules(), before + " 0" + "2".repeat(31) + "4>4");
        check.due("steps", bench.count(3), 6);

        Bench rights = new Bench(6).equation("5" + "0".repeat(34), "2".repeat(32) + "04")
                .equation("10", "02").equation("20", "13").equation("32", "23").equation("34", "04");
        rights.run(5);
        check.due("right words", rights.word(3), "0" + "2".repeat(32) + "4");
    }

    private void inSame() {
        Bench bench = counter(0);
        bench.tell(0, "2".repeat(37) + "04").tell(1, "0" + "2".repeat(37) + "4");
        check.due("same", bench.same(), 1);
        bench.tell(1, "1" + "2".repeat(37) + "4");
        check.due("not the same, and not complete", bench.same(), -1);
        check.due("they stay", bench.word(0), "2".repeat(37) + "04");
    }

    private void inIndex() {
        Bench bench = counter(0);
        long due = bench.tell(0, "0" + "2".repeat(18) + "4").index();
        check.due("index", bench.tell(0, "2".repeat(18) + "04").index(), due);
        check.due("it is so of its word", bench.find(due), 20);
        check.due("the word", bench.word(0), "0" + "2".repeat(18) + "4");
    }

    private void inOrder() {
        Bench bench = new Bench(5).equation("10", "02").equation("20", "13").equation("32", "23").equation("34", "04")
                .equation("0" + "2".repeat(32) + "4", "");
        bench.run(5);
        check.due("order", bench.tell(0, "2".repeat(32) + "04").order(), 1);
    }

    /** What one word or one row of rules has taught is not true of the next. */
    private void afterOtherRules() {
        Bench bench = counter(0);
        check.due("by the first rules", bench.reduced("2".repeat(20) + "04"), "0" + "2".repeat(20) + "4");
        bench.begin(5);
        bench.equation("10", "01").equation("20", "13").equation("31", "23").equation("34", "04");
        bench.run(4);
        check.due("by others", bench.reduced("2".repeat(20) + "04"), "0" + "1".repeat(20) + "4");
        bench.begin(5);
        check.due("by none", bench.reduced("2".repeat(20) + "04"), "2".repeat(20) + "04");
    }

    /** Counters that are changed a little, and words that they take long for. */
    private void compareWithPlain(Random random) {
        Bench bench = new Bench(6);
        PlainSolver plain = new PlainSolver();
        plain.begin(6);
        int counter = random.nextInt(COUNTERS.length);
        String[] words = COUNTERS[counter].clone();
        if (random.nextBoolean()) {
            change(words, random);
        }
        for (int i = 0; i < words.length; i += 2) {
            bench.equation(words[i], words[i + 1]);
            tell(plain, 0, words[i]);
            tell(plain, 1, words[i + 1]);
            plain.equation();
        }
        int steps = words.length / 2 + (random.nextInt(4) == 0 ? 1 + random.nextInt(2) : 0);
        bench.run(steps);
        plain.run(steps);
        String name = bench.rules() + ": ";
        for (int i = 0; i < WORDS; i++) {
            compare(bench, plain, name, randomWord(random, counter));
        }
    }

    private static void change(String[] words, Random random) {
        int i = random.nextInt(words.length / 2) * 2;
        int letter = random.nextInt(6);
        switch (random.nextInt(3)) {
            case 0 -> words[i + 1] = words[i + 1].substring(0, 1) + letter;
            case 1 -> {
                words[i] += letter;
                words[i + 1] += letter;
            }
            default -> {
                words[i] = letter + words[i];
                words[i + 1] = letter + words[i + 1];
            }
        }
    }

    /** Most digits are the greatest: with these counting takes longest. */
    private static String randomWord(Random random, int counter) {
        String[] digits = DIGITS[counter];
        StringBuilder word = new StringBuilder();
        int length = 10 / digits.length + random.nextInt(24 / digits.length);
        for (int i = 0; i < length; i++) {
            word.append(digits[random.nextInt(3) == 0 ? random.nextInt(digits.length) : digits.length - 1]);
        }
        return word + (random.nextInt(6) == 0 ? "05" : counter == 3 ? "00" : "04");
    }

    private static void tell(PlainSolver plain, int which, String word) {
        for (int i = 0; i < word.length(); i++) {
            plain.letter(which, word.charAt(i) - '0');
        }
    }

    private void compare(Bench bench, PlainSolver plain, String name, String word) {
        String now = word;
        int replacements = 0;
        for (String then = now; then != null && replacements <= MOST_REPLACEMENTS; replacements++) {
            now = then;
            then = plain.replaceFirstEnding(now);
        }
        String got = bench.reduced(word);
        if (replacements <= MOST_REPLACEMENTS) {
            compared++;
            many += replacements >= MANY_REPLACEMENTS ? 1 : 0;
            check.due(name + word, got, now);
        } else {
            check.due(name + "a left word stands in " + got, plain.replaceFirstEnding(got) == null, true);
        }
    }
}
