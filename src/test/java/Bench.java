/**
 * A WordSolver with words as texts of digits, so that tests can be read. It counts the calls: what an
 * object answers after its 512th call is free, so a test that it is made for may not look at that.
 */
final class Bench {
    static final int MOST_CALLS = 512;
    // What crowd() makes: so many rules, and so many equations that wait when no other was told.
    static final int CROWD_RULES = 32;
    static final int CROWD = 960;

    final WordSolver solver = new WordSolver();
    private final int mostCalls;
    private int calls;
    private int letters = 1;

    /** A new object, on which no call was made. */
    Bench() {
        this.mostCalls = MOST_CALLS;
    }

    Bench(int letters) {
        this(letters, MOST_CALLS);
    }

    private Bench(int letters, int mostCalls) {
        this.mostCalls = mostCalls;
        begin(letters);
    }

    /** For a test that fills rows which 512 calls do not fill, and asks nothing that is free then. */
    static Bench endless(int letters) {
        return new Bench(letters, Integer.MAX_VALUE);
    }

    int begin(int n) {
        int rules = called().begin(n);
        letters = n;
        return rules;
    }

    int letter(int which, int letter) {
        return called().letter(which, letter);
    }

    int erase(int which) {
        return called().erase(which);
    }

    int equation() {
        return called().equation();
    }

    int inverse(int x, int y) {
        return called().inverse(x, y);
    }

    int run(int n) {
        return called().run(n);
    }

    int reduce(int which) {
        return called().reduce(which);
    }

    int same() {
        return called().same();
    }

    int at(int what, int i) {
        return called().at(what, i);
    }

    long words(int n) {
        return called().words(n);
    }

    long size() {
        return called().size();
    }

    int find(long k) {
        return called().find(k);
    }

    long index() {
        return called().index();
    }

    int order() {
        return called().order();
    }

    int count(int what) {
        return called().count(what);
    }

    int callsLeft() {
        return mostCalls - calls;
    }

    private WordSolver called() {
        calls++;
        if (calls > mostCalls) {
            throw new AssertionError("the test makes more than " + mostCalls + " calls on one object");
        }
        return solver;
    }

    Bench tell(int which, String word) {
        erase(which);
        for (int i = 0; i < word.length(); i++) {
            letter(which, word.charAt(i) - '0');
        }
        return this;
    }

    /** Both words are empty behind it. */
    Bench equation(String one, String other) {
        tell(0, one);
        tell(1, other);
        equation();
        return this;
    }

    /** Each of the words and the empty one; A and B must be empty. */
    Bench nothings(String... words) {
        for (String word : words) {
            for (int i = 0; i < word.length(); i++) {
                letter(0, word.charAt(i) - '0');
            }
            equation();
        }
        return this;
    }

    /** A becomes the word by one call; it has at most 20 letters, and there is no rule yet. */
    Bench tellAtOnce(String word) {
        find(numberWithoutRules(word));
        return this;
    }

    /** The number of a word among all words. */
    long numberWithoutRules(String word) {
        long shorter = 0;
        long number = 0;
        long words = 1;
        for (int i = 0; i < word.length(); i++) {
            shorter += words;
            words *= letters;
            number = number * letters + word.charAt(i) - '0';
        }
        return shorter + number;
    }

    /**
     * All 32 words of five letters 0 and 1 become left words; 960 equations of their overlaps wait,
     * behind those that are told here, two words each. As 0000 is the right word of all of them, these
     * 960 change nothing when it comes to them.
     */
    Bench crowd(String... told) {
        for (int bits = 0; bits < CROWD_RULES; bits++) {
            tellAtOnce(Integer.toBinaryString(CROWD_RULES | bits).substring(1));
            for (int i = 0; i < 4; i++) {
                letter(1, 0);
            }
            equation();
        }
        for (int i = 0; i < told.length; i += 2) {
            equation(told[i], told[i + 1]);
        }
        run(CROWD_RULES);
        return this;
    }

    /** As many equations wait as are named, the last ones of nothing; A and B are empty behind it. */
    Bench fillTo(int number) {
        erase(0);
        erase(1);
        for (int waiting = count(2); waiting < number; waiting++) {
            equation();
        }
        return this;
    }

    String word(int what) {
        StringBuilder text = new StringBuilder();
        for (int letter = at(what, 0); letter >= 0; letter = at(what, text.length())) {
            text.append(letter);
        }
        return text.toString();
    }

    /** A and B. */
    String told() {
        return word(0) + "," + word(1);
    }

    String rules() {
        return rulesFrom(0);
    }

    /** The rules from one on, to look at the new ones of many. */
    String rulesFrom(int first) {
        StringBuilder text = new StringBuilder();
        int rules = count(1);
        for (int k = first; k < rules; k++) {
            text.append(k == first ? "" : " ").append(word(2 + 2 * k)).append('>').append(word(3 + 2 * k));
        }
        return text.toString();
    }

    String reduced(String word) {
        tell(0, word);
        reduce(0);
        return word(0);
    }

    /** All counts, 0 to 8. */
    String counts() {
        StringBuilder text = new StringBuilder();
        for (int what = 0; what <= 8; what++) {
            text.append(what == 0 ? "" : " ").append(count(what));
        }
        return text.toString();
    }

    /** All that can be seen of it without a change, but for the equations that wait. */
    String picture() {
        return counts() + " | " + told() + " | " + rules();
    }

    /** The symmetries of a triangle: 6 words, 6 rules, complete. */
    static Bench triangle() {
        Bench bench = new Bench(2).equation("000", "").equation("11", "").equation("101", "00");
        bench.run(500);
        return bench;
    }

    /** Four letters of which two undo one another: 4 rules, complete, infinitely many words. */
    static Bench free() {
        Bench bench = new Bench(4);
        bench.inverse(0, 1);
        bench.inverse(2, 3);
        bench.run(500);
        return bench;
    }

    /** Each of them makes a rule with a left word of 4 letters, and no equation; there may be 81. */
    static Bench manyRules(int number) {
        Bench bench = new Bench(6);
        for (int i = 0; i < number; i++) {
            bench.nothings("" + (3 + i % 3) + (i / 3 % 3) + (i / 9 % 3) + (i / 27));
        }
        return bench;
    }

    /** Stopped in its first step by a word of 41 letters; no equation waits. */
    static Bench stopped() {
        Bench bench = new Bench(2).equation("1" + "0".repeat(19) + "1", "0".repeat(21));
        bench.run(1);
        return bench;
    }

    /** Stopped by its 65th rule; no equation waits. */
    static Bench stoppedByRule() {
        Bench bench = manyRules(65);
        bench.run(65);
        return bench;
    }

    /** Stopped by equation 1001, which is made of the rule 222. */
    static Bench stoppedByEquation() {
        Bench bench = new Bench(6).crowd("222", "").fillTo(1000);
        bench.run(1);
        return bench;
    }
}
