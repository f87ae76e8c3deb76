import java.math.BigInteger;

/**
 * The boundary cases that the promises name: what is too small, too large, empty, full, goes round or is
 * refused. Above each test stands what the document says.
 */
public final class PromiseEdgesTest {
    private static final int[] NOT_A_WORD = {-1, 2, 3, Integer.MIN_VALUE, Integer.MAX_VALUE};

    private final Check check = new Check();

    public static void main(String[] args) {
        PromiseEdgesTest test = new PromiseEdgesTest();
        test.newObject();
        test.objectsAreApart();
        test.beginWithWrongLetters();
        test.beginAnew();
        test.beginWhenStopped();
        test.beginAnswersRules();
        test.letterOfAFullWord();
        test.letterNotThere();
        test.eraseEmptyAndFull();
        test.eraseWrong();
        test.equationWhenFull();
        test.equationOfEmptyAndFullWords();
        test.equationWhenStopped();
        test.inverseWhenFull();
        test.inverseOfOneLetter();
        test.inverseLeavesWords();
        test.inverseWhenStopped();
        test.inverseNotThere();
        test.runBounds();
        test.runAnswers();
        test.reduceEmptyAndFull();
        test.reduceWrong();
        test.sameOfEmptyWords();
        test.sameNotKnown();
        test.atToldWords();
        test.atRules();
        test.atNoSuchWord();
        test.wordsBounds();
        test.wordsWithLeftWordInLeftWord();
        test.sizeLeastAndEndless();
        test.sizeGoesRound();
        test.findFirstAndLast();
        test.findLongerThan20();
        test.indexLongerThan20();
        test.orderPutsBehind();
        test.orderLeast();
        test.orderUpTo200();
        test.orderUpTo40Letters();
        test.countNoSuch();
        test.check.end();
    }

    /** Promise 1: "One letter, no rules, no equations, A and B empty." */
    private void newObject() {
        Bench bench = new Bench();
        check.due("picture", bench.picture(), "1 0 0 0 1 0 0 0 0 | , | ");
        check.throwsArgument("a second letter", () -> bench.letter(0, 1));
        check.throwsArgument("a second letter", () -> bench.inverse(0, 1));
        check.due("no left word", bench.at(2, 0), -1);
        check.due("no right word", bench.at(3, 0), -1);
        check.due("words of 20 letters", bench.words(20), 1);
        check.due("no equation, so no step", bench.run(500), 1);
        check.due("steps", bench.count(3), 0);
        check.due("the letter", bench.letter(0, 0), 1);
        check.due("the letter", bench.letter(1, 0), 1);
    }

    private void objectsAreApart() {
        Bench first = Bench.triangle().tell(0, "01").tell(1, "1");
        String before = first.picture();
        Bench second = new Bench();
        check.due("the second", second.picture(), "1 0 0 0 1 0 0 0 0 | , | ");
        second.begin(6);
        second.equation("5", "").run(1);
        check.due("the first", first.picture(), before);
        check.due("its words", first.words(2), 3);
        check.due("the other's", second.words(2), 25);
    }

    /** Promise 2: "IllegalArgumentException when n is not 1 .. 6." */
    private void beginWithWrongLetters() {
        Bench bench = Bench.triangle().equation("01", "10").tell(0, "01").tell(1, "1");
        String before = bench.picture();
        for (int n : new int[] {0, 7, 8, -1, -6, 256 + 1, Integer.MIN_VALUE, Integer.MAX_VALUE}) {
            check.throwsArgument("begin " + n, () -> bench.begin(n));
        }
        check.due("nothing is new", bench.picture(), before);
        for (int n = 1; n <= 6; n++) {
            check.due("begin " + n, new Bench().begin(n), 0);
        }
    }

    /** Promise 2: "All begins anew with n letters (A, B, counts, too" */
    private void beginAnew() {
        Bench bench = Bench.triangle().equation("0", "1").equation("1", "").tell(0, "01").tell(1, "1");
        bench.run(1);
        check.due("before", bench.counts(), "2 2 6 30 0 2 1 3 5");
        check.due("begin", bench.begin(6), 2);
        check.due("thereafter", bench.picture(), "6 0 0 0 1 0 0 0 0 | , | ");
        check.due("no equation is left", bench.run(500), 1);
        check.due("no step", bench.count(3), 0);
        check.due("no rule is left", bench.reduced("0001100"), "0001100");
        check.due("words", bench.words(3), 216);
        check.due("size", bench.size(), -1);
        bench.tell(0, "5");
        check.due("fewer letters", bench.begin(1), 0);
        check.due("A", bench.count(5), 0);
        check.throwsArgument("a letter that was there", () -> bench.letter(0, 1));
        check.due("words", bench.words(3), 1);
    }

    /** Promise 2: "it is not stopped)" */
    private void beginWhenStopped() {
        for (Bench bench : stoppedOnes()) {
            check.throwsArgument("begin 7", () -> bench.begin(7));
            check.due("stopped still", bench.count(4) >= 2, true);
            bench.begin(2);
            check.due("begun", bench.counts(), "2 0 0 0 1 0 0 0 0");
            check.due("an equation waits", bench.nothings("11").count(2), 1);
            check.due("two more", bench.inverse(0, 0), 3);
            check.due("steps are made", bench.run(500), 1);
            check.due("rules", bench.rules(), "11> 00>");
        }
    }

    /** Promise 2: "how many rules there were." */
    private void beginAnswersRules() {
        check.due("none", new Bench().begin(1), 0);
        check.due("none, one waits", new Bench(1).nothings("0").begin(1), 0);
        check.due("64", Bench.stoppedByRule().begin(1), 64);
        Bench bench = Bench.free();
        check.due("four", bench.begin(3), 4);
        check.due("none any more", bench.begin(3), 0);
    }

    /** Promise 3: "how long it is; NONE when it is 40 long." */
    private void letterOfAFullWord() {
        for (int which = 0; which < 2; which++) {
            Bench bench = new Bench(6);
            for (int length = 1; length <= 40; length++) {
                check.due("letter " + length, bench.letter(which, length % 6), length);
            }
            String before = bench.told();
            check.due("letter 41", bench.letter(which, 0), -1);
            check.due("letter 42", bench.letter(which, 5), -1);
            check.due("it stays", bench.told(), before);
            check.due("length", bench.count(5 + which), 40);
            check.due("the other one has room", bench.letter(1 - which, 3), 1);
            check.due("erase", bench.erase(which), 40);
            check.due("there is room again", bench.letter(which, 0), 1);
        }
    }

    /** Promise 3: "IllegalArgumentException when which or the letter is not there." */
    private void letterNotThere() {
        Bench bench = new Bench(3).tell(0, "0".repeat(40)).tell(1, "2");
        String before = bench.picture();
        for (int letter : new int[] {-1, 3, 5, 6, 256, Integer.MIN_VALUE, Integer.MAX_VALUE}) {
            check.throwsArgument("letter " + letter + " of A, which is full", () -> bench.letter(0, letter));
            check.throwsArgument("letter " + letter + " of B", () -> bench.letter(1, letter));
        }
        for (int which : NOT_A_WORD) {
            check.throwsArgument("letter of " + which, () -> bench.letter(which, 0));
            check.throwsArgument("neither is there", () -> bench.letter(which, 3));
        }
        check.due("nothing is new", bench.picture(), before);
    }

    /** Promise 4: "A or B becomes empty: how long it was." */
    private void eraseEmptyAndFull() {
        Bench bench = new Bench(2).tell(0, "1".repeat(40)).tell(1, "0");
        check.due("a full one", bench.erase(0), 40);
        check.due("an empty one", bench.erase(0), 0);
        check.due("the other one stays", bench.told(), ",0");
        check.due("one letter", bench.erase(1), 1);
        check.due("both are empty", bench.told(), ",");
        check.due("an empty one", bench.erase(1), 0);
    }

    /** Promise 4: "IllegalArgumentException when which is not so." */
    private void eraseWrong() {
        Bench bench = new Bench(2).tell(0, "1").tell(1, "01");
        for (int which : NOT_A_WORD) {
            check.throwsArgument("erase " + which, () -> bench.erase(which));
        }
        check.due("they stay", bench.told(), "1,01");
    }

    /** Promise 5: "how many wait; NONE, changing nothing, when 1000 do." */
    private void equationWhenFull() {
        Bench last = new Bench(6).crowd().fillTo(999).tell(0, "23").tell(1, "4");
        check.due("equation 1000", last.equation(), 1000);
        check.due("A and B become empty", last.told(), ",");
        check.due("equation 1001", last.equation(), -1);

        Bench full = new Bench(6).crowd().fillTo(1000).tell(0, "23").tell(1, "4");
        check.due("equation 1001", full.equation(), -1);
        check.due("once more", full.equation(), -1);
        check.due("it waits, and is not stopped", full.counts(), "6 32 1000 32 0 2 1 5 0");
        goOnAlike(full, new Bench(6).crowd().fillTo(1000).tell(0, "23").tell(1, "4"));

        Bench later = new Bench(6).crowd().fillTo(1000).tell(0, "23").tell(1, "4");
        later.run(1);
        check.due("one is taken, so there is room for one", later.equation(), 1000);
        check.due("and no more", later.equation(), -1);
    }

    /** Promise 5: "A and B are an equation that waits behind all others, and become empty" */
    private void equationOfEmptyAndFullWords() {
        Bench bench = new Bench(2);
        check.due("of nothing", bench.equation(), 1);
        bench.tell(0, "01".repeat(20)).tell(1, "10".repeat(20));
        check.due("of full words", bench.equation(), 2);
        check.due("they become empty", bench.told(), ",");
        check.due("one step for nothing", bench.run(1), 0);
        check.due("no rule yet", bench.count(1), 0);
        check.due("one for the full ones", bench.run(1), 2);
        check.due("all letters are there", bench.rules(), "10".repeat(20) + ">" + "01".repeat(20));
    }

    /** Promise 5: "IllegalStateException when it is stopped." */
    private void equationWhenStopped() {
        for (Bench bench : stoppedOnes()) {
            bench.tell(0, "1").tell(1, "0");
            String before = bench.counts();
            check.throwsState("equation", bench::equation);
            check.due("counts", bench.counts(), before);
            check.due("A and B", bench.told(), "1,0");
            bench.erase(0);
            bench.erase(1);
            check.throwsState("equation of nothing", bench::equation);
        }
    }

    /** Promise 6: "how many do; NONE, changing nothing, when more than 998 do." */
    private void inverseWhenFull() {
        Bench even = new Bench(6).crowd().fillTo(998);
        check.due("998 wait", even.inverse(2, 3), 1000);
        check.due("1000 wait", even.inverse(2, 3), -1);
        Bench odd = new Bench(6).crowd().fillTo(999);
        check.due("999 wait", odd.inverse(2, 3), -1);
        check.due("not even one more waits", odd.counts(), "6 32 999 32 0 0 0 5 0");
        goOnAlike(odd, new Bench(6).crowd().fillTo(999));
        Bench full = new Bench(6).crowd().fillTo(1000).tell(0, "5").tell(1, "4");
        check.due("1000 wait", full.inverse(2, 3), -1);
        check.due("A and B stay", full.told(), "5,4");
        goOnAlike(full, new Bench(6).crowd().fillTo(1000).tell(0, "5").tell(1, "4"));
        Bench later = new Bench(6).crowd().fillTo(999);
        later.run(1);
        check.due("one is taken, so there is room for two", later.inverse(2, 3), 1000);
    }

    /** Promise 6: "the equations of a b, and of b a, and the empty word wait (of a a twice the same" */
    private void inverseOfOneLetter() {
        Bench bench = new Bench(1);
        check.due("two wait", bench.inverse(0, 0), 2);
        check.due("the first makes a rule", bench.run(1), 0);
        check.due("the rule", bench.rules(), "00>");
        check.due("the second waits, and the rule with itself", bench.count(2), 2);
        check.due("they make none", bench.run(2), 1);
        check.due("counts", bench.counts(), "1 1 0 3 1 0 0 2 0");
        Bench ends = new Bench(6);
        check.due("the least and the greatest letter", ends.inverse(5, 0), 2);
        ends.run(500);
        check.due("a b, then b a", ends.rules(), "50> 05>");
    }

    /** Promise 6: "A and B stay)" */
    private void inverseLeavesWords() {
        Bench bench = new Bench(2).tell(0, "01".repeat(20));
        bench.inverse(0, 1);
        check.due("a full and an empty one", bench.told(), "01".repeat(20) + ",");
        bench.run(500);
        check.due("behind the steps, too", bench.told(), "01".repeat(20) + ",");
    }

    /** Promise 6: "IllegalStateException when it is stopped; else" - so when a letter is not there, too. */
    private void inverseWhenStopped() {
        for (Bench bench : stoppedOnes()) {
            String before = bench.counts();
            check.throwsState("inverse", () -> bench.inverse(0, 1));
            for (int letter : new int[] {-1, 6, Integer.MIN_VALUE, Integer.MAX_VALUE}) {
                check.throwsState("by " + letter, () -> bench.inverse(0, letter));
                check.throwsState("of " + letter, () -> bench.inverse(letter, 0));
            }
            check.due("counts", bench.counts(), before);
        }
    }

    /** Promise 6: "else IllegalArgumentException when one is not there." */
    private void inverseNotThere() {
        Bench bench = new Bench(3).tell(0, "2").tell(1, "1");
        bench.inverse(0, 1);
        String before = bench.picture();
        for (int letter : new int[] {-1, 3, 5, Integer.MIN_VALUE, Integer.MAX_VALUE}) {
            check.throwsArgument("by " + letter, () -> bench.inverse(2, letter));
            check.throwsArgument("of " + letter, () -> bench.inverse(letter, 2));
            check.throwsArgument("both", () -> bench.inverse(letter, letter));
        }
        check.due("nothing is new", bench.picture(), before);
        Bench full = new Bench(5).crowd().fillTo(999);
        check.throwsArgument("999 wait", () -> full.inverse(0, 5));
        full.equation();
        check.throwsArgument("1000 wait", () -> full.inverse(5, 0));
        check.due("as many wait", full.count(2), 1000);
    }

    /** Promise 7: "Up to n (0 .. 500) steps" and "IllegalArgumentException when n is not so." */
    private void runBounds() {
        Bench bench = new Bench(2);
        for (int i = 0; i < 255; i++) {
            bench.inverse(1, 1);
        }
        check.due("run 0", bench.run(0), 0);
        check.due("no step", bench.counts(), "2 0 510 0 0 0 0 0 0");
        for (int n : new int[] {-1, 501, 502, -500, Integer.MIN_VALUE, Integer.MAX_VALUE}) {
            check.throwsArgument("run " + n, () -> bench.run(n));
        }
        check.due("nothing is new", bench.counts(), "2 0 510 0 0 0 0 0 0");
        check.due("run 500", bench.run(500), 0);
        check.due("500 steps, and 1 with 1 has come to wait", bench.counts(), "2 1 11 500 0 0 0 2 0");
        check.due("run 1", bench.run(1), 0);
        check.due("one step", bench.count(3), 501);
        check.due("run 500", bench.run(500), 1);
        check.due("no more than there are", bench.count(3), 511);
        check.throwsArgument("complete, and wrong", () -> bench.run(501));
        check.throwsArgument("stopped, and wrong", () -> Bench.stopped().run(-1));
    }

    /** Promise 7: "0 equations wait, 1 complete, 2, 3, 4 stopped by a word, by a rule, by an equation too many." */
    private void runAnswers() {
        Bench bench = new Bench(2).nothings("1", "0");
        check.due("two wait", bench.run(0), 0);
        check.due("one waits", bench.run(1), 0);
        check.due("the last step makes it complete", bench.run(1), 1);
        check.due("without a step", bench.run(0), 1);
        Bench[] stopped = stoppedOnes();
        for (int i = 0; i < stopped.length; i++) {
            int steps = stopped[i].count(3);
            check.due("run 0", stopped[i].run(0), 2 + i);
            check.due("run 500", stopped[i].run(500), 2 + i);
            check.due("no step more", stopped[i].count(3), steps);
        }
    }

    /** Promise 8: "A or B is reduced: how long it is." */
    private void reduceEmptyAndFull() {
        Bench bench = new Bench(2).equation("11", "0");
        bench.run(1);
        check.due("an empty one", bench.reduce(0), 0);
        check.due("an empty one", bench.reduce(1), 0);
        bench.tell(0, "10".repeat(20)).tell(1, "11");
        check.due("a full one without a left word", bench.reduce(0), 40);
        check.due("it stays, the other one, too", bench.told(), "10".repeat(20) + ",11");
        check.due("B", bench.reduce(1), 1);
        check.due("A stays", bench.told(), "10".repeat(20) + ",0");
        check.due("reduced once more", bench.reduce(1), 1);
        bench.tell(1, "1".repeat(40));
        check.due("a full one of left words", bench.reduce(1), 20);
        Bench nothing = new Bench(2).nothings("0", "1").tell(0, "01".repeat(20));
        nothing.run(500);
        check.due("to nothing", nothing.reduce(0), 0);
        check.due("without rules", new Bench(2).tell(1, "01".repeat(20)).reduce(1), 40);
    }

    /** Promise 8: "IllegalArgumentException when which is not so." */
    private void reduceWrong() {
        Bench bench = Bench.triangle().tell(0, "11").tell(1, "000");
        for (int which : NOT_A_WORD) {
            check.throwsArgument("reduce " + which, () -> bench.reduce(which));
        }
        check.due("they stay", bench.told(), "11,000");
    }

    /** Promise 9: "Whether A and B are the same": the empty ones are, in every state. */
    private void sameOfEmptyWords() {
        check.due("new", new Bench().same(), 1);
        check.due("one waits", new Bench(2).nothings("1").same(), 1);
        check.due("complete", Bench.triangle().same(), 1);
        for (Bench bench : stoppedOnes()) {
            check.due("stopped", bench.same(), 1);
        }
        Bench full = Bench.free().tell(0, "02".repeat(20)).tell(1, "02".repeat(20));
        check.due("full ones", full.same(), 1);
        full.erase(1);
        full.tell(1, "02".repeat(19) + "00");
        check.due("but for the last letter", full.same(), 0);
        check.due("full and empty", Bench.triangle().tell(0, "01".repeat(20)).same(), 1);
    }

    /** Promise 9: "NONE when that is not known (they are not the same when they are reduced, and it is not complete)" */
    private void sameNotKnown() {
        Bench bench = new Bench(2).nothings("11", "0").tell(0, "1").tell(1, "111");
        check.due("no rule yet", bench.same(), -1);
        bench.run(1);
        check.due("an equation waits, but they are the same", bench.same(), 1);
        check.due("an equation waits", bench.tell(1, "10").same(), -1);
        check.due("they stay", bench.told(), "1,10");
        bench.run(500);
        check.due("complete", bench.same(), 1);
        check.due("they stay, though 10 could be reduced", bench.told(), "1,10");
        check.due("complete, of four letters", bench.tell(1, "1011").same(), 1);
        check.due("they are not", bench.tell(1, "011").same(), 0);
        bench.erase(0);
        bench.erase(1);
        bench.equation();
        check.due("one of nothing waits", bench.tell(0, "1").same(), -1);
        bench.run(1);
        check.due("complete again", bench.same(), 0);
        for (Bench stopped : stoppedOnes()) {
            check.due("stopped", stopped.tell(0, "1").tell(1, "0").same(), -1);
        }
    }

    /** Promise 10: "Letter i of a word: what = 0 A, 1 B" and "NONE when there is none." */
    private void atToldWords() {
        String word = "012345".repeat(7).substring(0, 40);
        Bench bench = new Bench(6).tell(0, word).tell(1, "5");
        check.due("the first letter", bench.at(0, 0), 0);
        check.due("the last letter", bench.at(0, 39), 39 % 6);
        check.due("all letters", bench.word(0), word);
        check.due("B", bench.at(1, 0), 5);
        for (int i : new int[] {-1, 40, 41, Integer.MIN_VALUE, Integer.MAX_VALUE}) {
            check.due("A, " + i, bench.at(0, i), -1);
            check.due("B, " + i, bench.at(1, i), -1);
        }
        check.due("behind the end of B", bench.at(1, 1), -1);
        bench.tell(1, word).erase(1);
        bench.erase(0);
        for (int i = 0; i < 40; i += 13) {
            check.due("A is empty", bench.at(0, i), -1);
            check.due("B is empty", bench.at(1, i), -1);
        }
    }

    /** Promise 10: "2 + 2 * k the left word of rule k, 3 + 2 * k its right word" */
    private void atRules() {
        Bench full = new Bench(2).equation("1" + "0".repeat(39), "0".repeat(39) + "1");
        full.run(1);
        check.due("the first letter", full.at(2, 0), 1);
        check.due("the last letter", full.at(2, 39), 0);
        check.due("the last letter of the right word", full.at(3, 39), 1);
        for (int i : new int[] {-1, 40, Integer.MIN_VALUE, Integer.MAX_VALUE}) {
            check.due("left word, " + i, full.at(2, i), -1);
            check.due("right word, " + i, full.at(3, i), -1);
            check.due("no second rule, " + i, full.at(4, i), -1);
        }
        Bench many = Bench.stoppedByRule();
        check.due("rule 63", many.word(2 + 2 * 63), "3012");
        check.due("its right word is empty", many.at(3 + 2 * 63, 0), -1);
        check.due("no rule 64", many.at(2 + 2 * 64, 0), -1);
        check.due("no rule 64", many.at(3 + 2 * 64, 0), -1);
        Bench bench = new Bench(3).equation("20", "1").equation("22", "").equation("12", "00").equation("0", "");
        bench.run(3);
        check.due("three rules", bench.rules(), "20>1 22> 12>00");
        bench.run(1);
        String lefts = bench.word(2) + "," + bench.word(4) + "," + bench.word(6);
        check.due("the first is gone, and the others move up", lefts, "22,12,0");
        check.due("no rule behind them", bench.at(8, 0), -1);
        bench.begin(3);
        check.due("no rule", bench.at(2, 0), -1);
    }

    /** Promise 10: "NONE when there is none." */
    private void atNoSuchWord() {
        Bench bench = Bench.triangle().tell(0, "1").tell(1, "1");
        int[] wrong = {-1, -2, -3, 14, 15, 130, 131, 132, 1000, Integer.MIN_VALUE, Integer.MIN_VALUE + 1,
            Integer.MAX_VALUE - 1, Integer.MAX_VALUE};
        for (int what : wrong) {
            for (int i : new int[] {0, -1, Integer.MAX_VALUE}) {
                check.due("at " + what + ", " + i, bench.at(what, i), -1);
            }
        }
        for (int what = 2; what <= 5; what++) {
            check.due("no rules, " + what, new Bench(2).nothings("11").at(what, 0), -1);
        }
    }

    /** Promise 11: "How many words of n letters (0 .. 20)" and "IllegalArgumentException when n is not so." */
    private void wordsBounds() {
        Bench bench = new Bench(6);
        check.due("0 letters", bench.words(0), 1);
        check.due("20 letters", bench.words(20), 3656158440062976L);
        for (int n : new int[] {-1, 21, 40, Integer.MIN_VALUE, Integer.MAX_VALUE}) {
            check.throwsArgument("words of " + n, () -> bench.words(n));
        }
        check.due("20 letters again", bench.words(20), 3656158440062976L);
        bench.nothings("0", "1", "2", "3", "4", "5");
        check.due("only the empty one, but no step is made yet", bench.words(1), 6);
        bench.run(500);
        check.due("only the empty one", bench.words(0), 1);
        check.due("no other", bench.words(1) + bench.words(20), 0);
        Bench longest = new Bench(2).nothings("1".repeat(20));
        longest.run(1);
        check.due("19 letters", longest.words(19), 1 << 19);
        check.due("all but the left word itself", longest.words(20), (1 << 20) - 1);
        Bench longer = new Bench(2).nothings("1".repeat(21));
        longer.run(1);
        check.due("a left word that is longer", longer.words(20), 1 << 20);
    }

    /** Promise 11: "no left word stands in": also where one stands in another that found no room to wait. */
    private void wordsWithLeftWordInLeftWord() {
        Bench bench = new Bench(6).crowd("323", "4", "525", "", "2", "");
        bench.run(2);
        bench.fillTo(1000);
        check.due("run", bench.run(1), 4);
        check.due("525 stays", bench.rulesFrom(Bench.CROWD_RULES), "525> 2>");
        check.due("one letter", bench.words(1), 5);
        check.due("three letters", bench.words(3), 125);
        check.due("five letters", bench.words(5), 3125 - 32);
        check.due("the third", bench.find(2), 1);
        check.due("the third", bench.word(0), "1");
        check.due("the fourth", bench.find(3), 1);
        check.due("the fourth is not 2", bench.word(0), "3");
        check.due("its number", bench.index(), 3);
    }

    /** Promise 12: "How many words of any length no left word stands in; NONE when there are infinitely many" */
    private void sizeLeastAndEndless() {
        Bench one = new Bench(1);
        check.due("no rules, one letter", one.size(), -1);
        check.due("no rules, six letters", new Bench(6).size(), -1);
        one.nothings("0".repeat(40)).run(1);
        check.due("0 to 39 letters", one.size(), 40);
        one.nothings("0").run(500);
        check.due("the empty one alone", one.size(), 1);
        Bench bench = new Bench(3).nothings("0", "1");
        bench.run(1);
        check.due("1 and 2 are endless", bench.size(), -1);
        bench.run(1);
        check.due("2 is endless", bench.size(), -1);
        bench.nothings("2".repeat(3)).run(1);
        check.due("it is not complete, but they have an end", bench.size(), 3);
        Bench late = new Bench(2).nothings("00", "11");
        late.run(2);
        check.due("01 goes on and on", late.size(), -1);
        late.nothings("0101").run(500);
        check.due("no longer", late.size(), 4);
        check.due("asked again", late.size(), 4);
    }

    /** Promise 12: "(the number goes round beyond 2^63 - 1)" */
    private void sizeGoesRound() {
        int[] powers = {4, 5, 9, 40};
        int[] rounds = {0, 1, 2, 9};
        for (int i = 0; i < powers.length; i++) {
            BigInteger due = sizeOfTwoLetters(40).pow(2).multiply(sizeOfTwoLetters(powers[i]));
            check.due("so often 2^63", due.shiftRight(63).intValue(), rounds[i]);
            Bench bench = new Bench(6);
            tellMany(bench, 40, 0);
            tellMany(bench, 40, 2);
            tellMany(bench, powers[i], 4);
            for (int greater = 2; greater < 6; greater++) {
                for (int lesser = 0; lesser < greater / 2 * 2; lesser++) {
                    bench.nothings("" + greater + lesser);
                }
            }
            check.due("run", bench.run(42), 0);
            check.due("rules", bench.count(1), 42);
            check.due("size", bench.size(), due.longValue());
            check.due("size again", bench.size(), due.longValue());
        }
    }

    /**
     * Of words of 0 and 1 in which none of these stands there is an end: the part of the ones grows, from
     * zeros over 001, 01, 011 to ones, each as often as the last ones allow.
     */
    private static String[] leftsOfMany(int zeros) {
        return new String[] {"1000", "1100", "1110", "10100", "11010",
            "0".repeat(zeros), "001".repeat(13), "01".repeat(20), "011".repeat(13), "1".repeat(40)};
    }

    private BigInteger sizeOfTwoLetters(int zeros) {
        PlainSolver plain = new PlainSolver();
        plain.begin(2);
        for (String left : leftsOfMany(zeros)) {
            for (int i = 0; i < left.length(); i++) {
                plain.letter(0, left.charAt(i) - '0');
            }
            plain.equation();
        }
        plain.run(10);
        check.due("rules", plain.count(1), 10);
        return BigInteger.valueOf(plain.size());
    }

    /** The same words with other letters; 512 calls would not be enough to tell all their letters. */
    private static void tellMany(Bench bench, int zeros, int more) {
        for (String left : leftsOfMany(zeros)) {
            String word = left.replace('1', (char) ('1' + more)).replace('0', (char) ('0' + more));
            int found = Math.min(word.length(), 20);
            bench.tellAtOnce(word.substring(0, found));
            for (int i = found; i < word.length(); i++) {
                bench.letter(0, word.charAt(i) - '0');
            }
            bench.equation();
        }
    }

    /**
     * Promise 13: "A becomes the k-th (from 0) of these words, the least first: how long it is; NONE,
     * changing nothing, when there is none such"
     */
    private void findFirstAndLast() {
        Bench bench = Bench.triangle().tell(0, "111").tell(1, "0");
        for (long k : new long[] {-1, 6, 7, 1L << 32, Long.MIN_VALUE, Long.MAX_VALUE}) {
            check.due("find " + k, bench.find(k), -1);
        }
        check.due("A and B stay", bench.told(), "111,0");
        check.due("the first", bench.find(0), 0);
        check.due("it is empty", bench.told(), ",0");
        check.due("the last", bench.find(5), 2);
        check.due("the last", bench.told(), "10,0");
        Bench least = new Bench(1).nothings("0");
        least.run(1);
        check.due("the only one", least.find(0), 0);
        check.due("no other", least.find(1), -1);
        Bench full = new Bench(2).tell(0, "01".repeat(20));
        check.due("a full A", full.find(2), 1);
        check.due("becomes short", full.word(0), "1");
    }

    /** Promise 13: "or it is longer than 20." */
    private void findLongerThan20() {
        Bench one = new Bench(1).nothings("0".repeat(30));
        one.run(1);
        check.due("size", one.size(), 30);
        check.due("20 letters", one.find(20), 20);
        check.due("21 letters", one.find(21), -1);
        check.due("the longest", one.find(29), -1);
        check.due("none such", one.find(30), -1);
        check.due("A stays", one.word(0), "0".repeat(20));
        Bench six = new Bench(6).tell(1, "3");
        long all = six.numberWithoutRules("5".repeat(20)) + 1;
        check.due("the last of 19 letters", six.find(six.numberWithoutRules("5".repeat(19))), 19);
        check.due("it is", six.word(0), "5".repeat(19));
        check.due("the first of 20 letters", six.find(six.numberWithoutRules("0".repeat(20))), 20);
        check.due("it is", six.word(0), "0".repeat(20));
        check.due("the last of 20 letters", six.find(all - 1), 20);
        check.due("the first of 21 letters", six.find(all), -1);
        check.due("endless", six.find(Long.MAX_VALUE), -1);
        check.due("A and B stay", six.told(), "5".repeat(20) + ",3");
    }

    /**
     * Promise 14: "The number of A reduced among these words (A stays as it is); NONE when it is longer
     * than 20 then."
     */
    private void indexLongerThan20() {
        Bench six = new Bench(6);
        check.due("of nothing", six.index(), 0);
        String zeros = "0".repeat(20);
        check.due("the first of 20 letters", six.tell(0, zeros).index(), six.numberWithoutRules(zeros));
        check.due("the last of 20 letters", six.tell(0, "5".repeat(20)).index(), 4387390128075570L);
        check.due("21 letters", six.tell(0, "0".repeat(21)).index(), -1);
        check.due("A stays", six.word(0), "0".repeat(21));
        check.due("40 letters", six.tell(0, "5".repeat(40)).index(), -1);
        Bench half = new Bench(2).equation("11", "0");
        half.run(1);
        long due = half.tell(0, zeros).index();
        check.due("40 letters, 20 when they are reduced", half.tell(0, "1".repeat(40)).index(), due);
        check.due("39 letters, 20 then", half.tell(0, "1".repeat(38) + "0").index(), due);
        check.due("40 letters, 21 then", half.tell(0, "1".repeat(38) + "00").index(), -1);
        check.due("A stays", half.word(0), "1".repeat(38) + "00");
        Bench none = new Bench(1).nothings("0");
        none.run(1);
        check.due("40 letters, none then", none.tell(0, "0".repeat(40)).index(), 0);
        check.due("A stays", none.count(5), 40);
    }

    /** Promise 15: "reduced each time one more (as it was told) is put behind it" */
    private void orderPutsBehind() {
        Bench bench = new Bench(4).equation("01", "2").equation("20", "3").equation("31", "");
        bench.run(3);
        check.due("01 is 2, 201 is 31, and that is nothing", bench.tell(0, "01").order(), 2);
        check.due("A stays", bench.word(0), "01");
    }

    /** Promise 15: "The least n from 1" */
    private void orderLeast() {
        check.due("nothing, without rules", new Bench().order(), 1);
        check.due("a letter, without rules", new Bench(1).tell(0, "0").order(), -1);
        Bench bench = new Bench(1).nothings("0");
        bench.run(1);
        check.due("nothing", bench.order(), 1);
        check.due("what is nothing when it is reduced", bench.tell(0, "0".repeat(40)).order(), 1);
        check.due("A stays", bench.count(5), 40);
        Bench idle = new Bench(1).equation("00", "0");
        idle.run(500);
        check.due("none, though it stays short", idle.tell(0, "0").order(), -1);
        check.due("A stays", idle.word(0), "0");
    }

    /** Promise 15: "to 200 for which A, n times, ... is empty; NONE when there is none": 1 is 20 zeros. */
    private void orderUpTo200() {
        String[] nothing = {"0".repeat(19) + "1".repeat(9), "1".repeat(10), "0" + "1".repeat(10)};
        for (int n = 199; n <= 201; n++) {
            Bench bench = new Bench(2).equation("0".repeat(20), "1").equation("10", "01").nothings(nothing[n - 199]);
            check.due("complete", bench.run(500), 1);
            check.due("size", bench.size(), n);
            check.due("order " + n, bench.tell(0, "0").order(), n == 201 ? -1 : n);
            check.due("A stays", bench.word(0), "0");
        }
    }

    /** Promise 15: "or a word would be longer than 40 (ahead of its reducing). A stays as it is." */
    private void orderUpTo40Letters() {
        Bench bench = Bench.triangle();
        check.due("39 letters, then 1 and 39 more", bench.tell(0, "0".repeat(36) + "111").order(), 2);
        check.due("A stays", bench.word(0), "0".repeat(36) + "111");
        check.due("38 letters, then 2 and 38 more", bench.tell(0, "0".repeat(37) + "1").order(), 2);
        check.due("40 letters, then 1 and 40 more", bench.tell(0, "0".repeat(39) + "1").order(), -1);
        check.due("A stays", bench.word(0), "0".repeat(39) + "1");
        Bench even = new Bench(1).nothings("0".repeat(40));
        even.run(1);
        check.due("twice 20", even.tell(0, "0".repeat(20)).order(), 2);
        check.due("40 at once", even.tell(0, "0".repeat(40)).order(), 1);
        check.due("twice 21", even.tell(0, "0".repeat(21)).order(), -1);
        check.due("40 times", even.tell(0, "0").order(), 40);
    }

    /** Promise 16: "NONE for others." */
    private void countNoSuch() {
        Bench bench = Bench.triangle().tell(0, "1").tell(1, "01");
        check.due("0 to 8", bench.counts(), "2 6 0 29 1 1 2 3 0");
        for (int what : new int[] {-1, 9, 10, -8, Integer.MIN_VALUE, Integer.MAX_VALUE}) {
            check.due("count " + what, bench.count(what), -1);
        }
        Bench full = new Bench(2).nothings("1".repeat(40)).tell(0, "0".repeat(40)).tell(1, "1".repeat(40));
        full.run(1);
        check.due("full words, the longest left word", full.counts(), "2 1 39 1 0 40 40 40 0");
        Bench[] stopped = stoppedOnes();
        for (int i = 0; i < stopped.length; i++) {
            check.due("4 as run() answers", stopped[i].count(4), stopped[i].run(0));
            check.due("stopped", stopped[i].count(4), 2 + i);
        }
    }

    /** Stopped by a word, by a rule, by an equation too many. */
    private static Bench[] stoppedOnes() {
        return new Bench[] {Bench.stopped(), Bench.stoppedByRule(), Bench.stoppedByEquation()};
    }

    /** What waits cannot be looked at, so it is seen by what becomes of it. */
    private void goOnAlike(Bench called, Bench twin) {
        check.due("A and B", called.told(), twin.told());
        for (int i = 0; i < 3; i++) {
            check.due("counts", called.counts(), twin.counts());
            check.due("run", called.run(500), twin.run(500));
        }
        check.due("complete", called.count(4), 1);
        check.due("counts", called.counts(), twin.counts());
        check.due("new rules", called.rulesFrom(Bench.CROWD_RULES), twin.rulesFrom(Bench.CROWD_RULES));
    }
}
