/** A WordSolver with words as texts of digits, so that tests can be read. */
final class Bench {
    final WordSolver solver = new WordSolver();

    Bench(int letters) {
        solver.begin(letters);
    }

    Bench tell(int which, String word) {
        solver.erase(which);
        for (int i = 0; i < word.length(); i++) {
            solver.letter(which, word.charAt(i) - '0');
        }
        return this;
    }

    /** Both words are empty behind it. */
    Bench equation(String one, String other) {
        tell(0, one);
        tell(1, other);
        solver.equation();
        return this;
    }

    /** Equations that wait and make, if it comes to them, no more than a rule. */
    Bench fill(int number) {
        for (int i = 0; i < number / 2; i++) {
            solver.inverse(0, 0);
        }
        if (number % 2 == 1) {
            solver.equation();
        }
        return this;
    }

    String word(int what) {
        StringBuilder text = new StringBuilder();
        for (int i = 0; solver.at(what, i) >= 0; i++) {
            text.append(solver.at(what, i));
        }
        return text.toString();
    }

    String rules() {
        StringBuilder text = new StringBuilder();
        for (int k = 0; k < solver.count(1); k++) {
            text.append(k == 0 ? "" : " ").append(word(2 + 2 * k)).append('>').append(word(3 + 2 * k));
        }
        return text.toString();
    }

    String reduced(String word) {
        tell(0, word);
        solver.reduce(0);
        return word(0);
    }

    /** All counts, 0 to 8. */
    String counts() {
        StringBuilder text = new StringBuilder();
        for (int what = 0; what <= 8; what++) {
            text.append(what == 0 ? "" : " ").append(solver.count(what));
        }
        return text.toString();
    }

    /** The symmetries of a triangle: 6 words, 6 rules, complete. */
    static Bench triangle() {
        Bench bench = new Bench(2).equation("000", "").equation("11", "").equation("101", "00");
        bench.solver.run(500);
        return bench;
    }

    /** Four letters of which two undo one another: 4 rules, complete, infinitely many words. */
    static Bench free() {
        Bench bench = new Bench(4);
        bench.solver.inverse(0, 1);
        bench.solver.inverse(2, 3);
        bench.solver.run(500);
        return bench;
    }

    /** Stopped in its first step by a word of 41 letters. */
    static Bench stopped() {
        Bench bench = new Bench(2).equation("1" + "0".repeat(19) + "1", "0".repeat(21));
        bench.solver.run(1);
        return bench;
    }
}
