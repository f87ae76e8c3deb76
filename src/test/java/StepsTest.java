/** The steps of the document's terms: what they do, and in which order; their edges are in TermEdgesTest. */
public final class StepsTest {
    private final Check check = new Check();

    public static void main(String[] args) {
        StepsTest test = new StepsTest();
        test.sameWordsMakeNoRule();
        test.greaterWordIsLeft();
        test.bothWordsAreReduced();
        test.rulesGoOutOldestFirst();
        test.rightWordsAreReduced();
        test.rightWordsAreReducedAheadOfOverlaps();
        test.overlapsInOrder();
        test.overlapWithItself();
        test.manySteps();
        test.reducingEnds();
        test.check.end();
    }

    private void sameWordsMakeNoRule() {
        Bench bench = new Bench(2).equation("01", "01");
        check.due("run", bench.run(1), 1);
        check.due("counts", bench.counts(), "2 0 0 1 1 0 0 0 0");
    }

    private void greaterWordIsLeft() {
        Bench bench = new Bench(3).equation("2", "00").equation("1", "2").equation("012", "021").equation("", "0");
        bench.run(1);
        check.due("the longer one", bench.rules(), "00>2");
        bench.run(1);
        check.due("the greater letter", bench.rules(), "00>1 2>1");
        Bench late = new Bench(3).equation("0121", "0112").equation("", "2");
        late.run(1);
        check.due("the greater letter where they differ first", late.rules(), "0121>0112");
        late.run(1);
        check.due("nothing is the least", late.rules(), "2>");
    }

    private void bothWordsAreReduced() {
        Bench bench = new Bench(3).equation("00", "").equation("11", "0").equation("2001", "0110");
        bench.run(1);
        check.due("one rule", bench.rules(), "00>");
        bench.run(1);
        check.due("two rules", bench.rules(), "00> 11>0");
        bench.run(1);
        check.due("three rules", bench.rules(), "00> 11>0 21>0");
    }

    private void rulesGoOutOldestFirst() {
        Bench bench = new Bench(4).equation("02", "").equation("33", "0").equation("12", "1").equation("2", "");
        bench.run(3);
        check.due("before", bench.rules(), "02> 33>0 12>1");
        int waited = bench.count(2);
        bench.run(1);
        check.due("behind", bench.rules(), "33>0 2>");
        check.due("gone", bench.count(8), 2);
        check.due("waiting", bench.count(2), waited - 1 + 2);
        bench.run(waited - 1);
        String before = bench.rules();
        check.due("the older one waits first", bench.run(1), 0);
        check.due("0 is nothing", bench.rules().contains(" 0>"), true);
        check.due("it was not so before", before.contains(" 0>"), false);
    }

    private void rightWordsAreReduced() {
        Bench bench = new Bench(4).equation("33", "21").equation("31", "2").equation("2", "0").equation("01", "1");
        bench.run(2);
        check.due("before", bench.rules(), "33>21 31>2");
        int waited = bench.count(2);
        bench.run(1);
        check.due("behind", bench.rules(), "33>01 31>0 2>0");
        check.due("no rule is gone", bench.count(8), 0);
        check.due("no overlap with one letter", bench.count(2), waited - 1);
        bench.run(1);
        check.due("the newest right word too, later", bench.rules(), "33>1 31>0 2>0 01>1");
    }

    /** The equations that wait are looked at by the rules that they make: of 12012, then of 0120. */
    private void overlapsInOrder() {
        Bench bench = new Bench(6).equation("012", "3").equation("120", "4");
        bench.run(2);
        check.due("rules", bench.rules(), "012>3 120>4");
        check.due("waiting", bench.count(2), 2);
        bench.run(1);
        check.due("the new one in front", bench.rules(), "012>3 120>4 412>123");
        bench.run(1);
        check.due("the new one behind", bench.rules(), "012>3 120>4 412>123 30>04");

        Bench longer = new Bench(6).equation("0101", "2").equation("1010", "3");
        longer.run(1);
        check.due("0101 with itself, by two", longer.count(2), 2);
        longer.run(1);
        check.due("by one and three, by one and three, by two", longer.count(2), 1 + 2 + 2 + 1);
        longer.run(2);
        check.due("the lesser k first", longer.rules(), "0101>2 1010>3 201>012 3101>1012");
    }

    private void overlapWithItself() {
        Bench bench = new Bench(2).equation("0".repeat(40), "");
        bench.run(1);
        check.due("39 overlaps, though of same words", bench.count(2), 39);
        check.due("run", bench.run(39), 1);
        check.due("counts", bench.counts(), "2 1 0 40 1 0 0 40 0");
        Bench single = new Bench(2).equation("1", "");
        check.due("none with one letter", single.run(1), 1);
    }

    /** Of 60 letters until the new rule, which stands in the right word, has made that short. */
    private void rightWordsAreReducedAheadOfOverlaps() {
        String left = "4".repeat(29) + "2";
        Bench bench = new Bench(6).equation("2" + "5".repeat(30), "0" + left).equation(left, "");
        check.due("run", bench.run(2), 0);
        check.due("rules", bench.rules(), "2" + "5".repeat(30) + ">0 " + left + ">");
        check.due("counts", bench.counts(), "6 2 1 2 0 0 0 31 0");
    }

    private void manySteps() {
        Bench bench = new Bench(5).equation("01", "2").equation("12", "3").equation("23", "4").equation("34", "0")
                .equation("40", "1");
        PlainSolver plain = new PlainSolver();
        plain.begin(5);
        for (int i = 0; i < 5; i++) {
            plain.letter(0, i);
            plain.letter(0, (i + 1) % 5);
            plain.letter(1, (i + 2) % 5);
            plain.equation();
        }
        for (int i = 0; i < 4; i++) {
            check.due("run", bench.run(500), plain.run(500));
            for (int what = 0; what <= 8; what++) {
                check.due("count " + what, bench.count(what), plain.count(what));
            }
        }
        check.due("steps", bench.count(3) > 1000, true);
    }

    /** Rules that count down in binary: the word of 40 letters would take some 2^40 turns. */
    private void reducingEnds() {
        Bench bench = new Bench(5).equation("10", "01").equation("20", "13").equation("31", "23").equation("34", "04");
        bench.run(4);
        check.due("sixteen digits", bench.reduced("2".repeat(16) + "04"), "0" + "1".repeat(16) + "4");
        bench.tell(0, "2".repeat(38) + "04");
        check.due("thirty-eight digits", bench.reduce(0), 40);
        check.due("thereafter", bench.reduced("2".repeat(16) + "04"), "0" + "1".repeat(16) + "4");
    }
}
