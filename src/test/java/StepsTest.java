/** The steps of the document's terms: what they do, in which order, and all that stops them. */
public final class StepsTest {
    private final Check check = new Check();

    public static void main(String[] args) {
        StepsTest test = new StepsTest();
        test.sameWordsMakeNoRule();
        test.greaterWordIsLeft();
        test.bothWordsAreReduced();
        test.rulesGoOutOldestFirst();
        test.rightWordsAreReduced();
        test.rightWordsAreReducedAheadOfOverlaps();
        test.overlapsInOrder();
        test.overlapWithItself();
        test.stoppedByFirstWord();
        test.stoppedBySecondWord();
        test.stoppedByRule();
        test.stoppedByEquation();
        test.wordIsAskedAhead();
        test.ruleWithoutRoomStays();
        test.manySteps();
        test.reducingEnds();
        test.check.end();
    }

    private void sameWordsMakeNoRule() {
        Bench bench = new Bench(2).equation("01", "01");
        check.due("run", bench.solver.run(1), 1);
        check.due("counts", bench.counts(), "2 0 0 1 1 0 0 0 0");
    }

    private void greaterWordIsLeft() {
        Bench bench = new Bench(3).equation("2", "00").equation("1", "2").equation("012", "021").equation("", "0");
        bench.solver.run(1);
        check.due("the longer one", bench.rules(), "00>2");
        bench.solver.run(1);
        check.due("the greater letter", bench.rules(), "00>1 2>1");
        Bench late = new Bench(3).equation("0121", "0112").equation("", "2");
        late.solver.run(1);
        check.due("the greater letter where they differ first", late.rules(), "0121>0112");
        late.solver.run(1);
        check.due("nothing is the least", late.rules(), "2>");
    }

    private void bothWordsAreReduced() {
        Bench bench = new Bench(3).equation("00", "").equation("11", "0").equation("2001", "0110");
        bench.solver.run(1);
        check.due("one rule", bench.rules(), "00>");
        bench.solver.run(1);
        check.due("two rules", bench.rules(), "00> 11>0");
        bench.solver.run(1);
        check.due("three rules", bench.rules(), "00> 11>0 21>0");
    }

    private void rulesGoOutOldestFirst() {
        Bench bench = new Bench(4).equation("02", "").equation("33", "0").equation("12", "1").equation("2", "");
        bench.solver.run(3);
        check.due("before", bench.rules(), "02> 33>0 12>1");
        int waited = bench.solver.count(2);
        bench.solver.run(1);
        check.due("behind", bench.rules(), "33>0 2>");
        check.due("gone", bench.solver.count(8), 2);
        check.due("waiting", bench.solver.count(2), waited - 1 + 2);
        bench.solver.run(waited - 1);
        String before = bench.rules();
        check.due("the older one waits first", bench.solver.run(1), 0);
        check.due("0 is nothing", bench.rules().contains(" 0>"), true);
        check.due("it was not so before", before.contains(" 0>"), false);
    }

    private void rightWordsAreReduced() {
        Bench bench = new Bench(4).equation("33", "21").equation("31", "2").equation("2", "0").equation("01", "1");
        bench.solver.run(2);
        check.due("before", bench.rules(), "33>21 31>2");
        int waited = bench.solver.count(2);
        bench.solver.run(1);
        check.due("behind", bench.rules(), "33>01 31>0 2>0");
        check.due("no rule is gone", bench.solver.count(8), 0);
        check.due("no overlap with one letter", bench.solver.count(2), waited - 1);
        bench.solver.run(1);
        check.due("the newest right word too, later", bench.rules(), "33>1 31>0 2>0 01>1");
    }

    /** The equations that wait are looked at by the rules that they make: of 12012, then of 0120. */
    private void overlapsInOrder() {
        Bench bench = new Bench(6).equation("012", "3").equation("120", "4");
        bench.solver.run(2);
        check.due("rules", bench.rules(), "012>3 120>4");
        check.due("waiting", bench.solver.count(2), 2);
        bench.solver.run(1);
        check.due("the new one in front", bench.rules(), "012>3 120>4 412>123");
        bench.solver.run(1);
        check.due("the new one behind", bench.rules(), "012>3 120>4 412>123 30>04");

        Bench longer = new Bench(6).equation("0101", "2").equation("1010", "3");
        longer.solver.run(1);
        check.due("0101 with itself, by two", longer.solver.count(2), 2);
        longer.solver.run(1);
        check.due("by one and three, by one and three, by two", longer.solver.count(2), 1 + 2 + 2 + 1);
        longer.solver.run(2);
        check.due("the lesser k first", longer.rules(), "0101>2 1010>3 201>012 3101>1012");
    }

    private void overlapWithItself() {
        Bench bench = new Bench(2).equation("0".repeat(40), "");
        bench.solver.run(1);
        check.due("39 overlaps, though of same words", bench.solver.count(2), 39);
        check.due("run", bench.solver.run(39), 1);
        check.due("counts", bench.counts(), "2 1 0 40 1 0 0 40 0");
        Bench single = new Bench(2).equation("1", "");
        check.due("none with one letter", single.solver.run(1), 1);
    }

    private void stoppedByFirstWord() {
        String left = "1" + "0".repeat(19) + "1";
        Bench fits = new Bench(2).equation(left, "0".repeat(20));
        check.due("40 letters fit", fits.solver.run(1), 0);
        check.due("40 letters fit, counts", fits.counts(), "2 1 1 1 0 0 0 21 0");
        Bench bench = new Bench(2).equation(left, "0".repeat(21)).equation("1", "0");
        check.due("41 letters", bench.solver.run(500), 2);
        check.due("41 letters, counts", bench.counts(), "2 1 1 1 2 0 0 21 0");
        check.due("what was done stays", bench.rules(), left + ">" + "0".repeat(21));
        // The second word is short: 12 letters of the right word, and 30 without the first.
        for (int length : new int[] {11, 12}) {
            Bench first = new Bench(4).equation("2" + "1".repeat(28) + "3", "")
                    .equation("1" + "0".repeat(length - 2) + "2", "0".repeat(length - 1) + "2");
            check.due("run", first.solver.run(2), length == 11 ? 0 : 2);
            check.due("counts", first.counts(), length == 11 ? "4 2 1 2 0 0 0 30 0" : "4 2 0 2 2 0 0 30 0");
        }
    }

    /** 30 letters without the last, and 12 of the other rule's right word. */
    private void stoppedBySecondWord() {
        for (int length : new int[] {11, 12}) {
            String left = "2" + "0".repeat(length - 1);
            String right = "1" + "0".repeat(length - 1);
            Bench bench = new Bench(4).equation(left, right).equation("3" + "1".repeat(28) + "2", "");
            check.due("run", bench.solver.run(2), length == 11 ? 0 : 2);
            check.due("counts", bench.counts(), length == 11 ? "4 2 1 2 0 0 0 30 0" : "4 2 0 2 2 0 0 30 0");
        }
    }

    private void stoppedByRule() {
        Bench bench = new Bench(6);
        for (int i = 0; i < 65; i++) {
            String left = "" + (3 + i % 3) + (i / 3 % 3) + (i / 9 % 3) + (i / 27);
            bench.tell(0, left);
            bench.solver.equation();
        }
        check.due("64 rules", bench.solver.run(64), 0);
        check.due("64 rules, counts", bench.counts(), "6 64 1 64 0 0 0 4 0");
        check.due("the 65th", bench.solver.run(1), 3);
        check.due("the 65th, counts", bench.counts(), "6 64 0 65 3 0 0 4 0");
        check.due("its equation is gone", bench.solver.run(1), 3);
        check.due("no more steps", bench.solver.count(3), 65);
        check.throwsState("equation", () -> bench.solver.equation());
        check.throwsState("inverse", () -> bench.solver.inverse(0, 0));
        check.due("the last rule", bench.word(2 + 2 * 63), "3" + "0" + "1" + "2");
        check.due("no rule behind it", bench.word(2 + 2 * 64), "");
        check.due("reduce", bench.reduced("13012"), "1");
        check.due("words", bench.solver.words(4), 1296 - 64);
    }

    private void stoppedByEquation() {
        Bench bench = new Bench(2).equation("000", "").fill(998);
        check.due("1000 wait", bench.solver.run(1), 0);
        check.due("1000 wait, counts", bench.counts(), "2 1 1000 1 0 0 0 3 0");
        Bench full = new Bench(2).equation("000", "").fill(999);
        check.due("the 1001st", full.solver.run(1), 4);
        check.due("the 1001st, counts", full.counts(), "2 1 1000 1 4 0 0 3 0");
        check.due("no more steps", full.solver.run(500), 4);
        check.due("no more steps, counts", full.counts(), "2 1 1000 1 4 0 0 3 0");
        check.throwsState("stopped rather than full", () -> full.solver.equation());
        check.throwsState("stopped rather than full", () -> full.solver.inverse(0, 1));
        check.due("reduce", full.reduced("10000"), "10");
    }

    /** 76 overlaps with the older rules, then one with itself of 41 letters. */
    private void wordIsAskedAhead() {
        for (int fill : new int[] {924, 925}) {
            Bench bench = new Bench(6);
            for (int letter = 2; letter < 6; letter++) {
                bench.equation("1".repeat(19) + letter, "");
            }
            bench.equation("1".repeat(21), "0".repeat(21));
            bench.solver.run(4);
            bench.fill(fill);
            check.due("run", bench.solver.run(1), fill == 924 ? 2 : 4);
            check.due("counts", bench.counts(), "6 5 1000 5 " + (fill == 924 ? 2 : 4) + " 0 0 21 0");
        }
    }

    private void ruleWithoutRoomStays() {
        Bench bench = new Bench(4).equation("02", "1").equation("12", "0").equation("31", "2").equation("2", "");
        bench.solver.run(3);
        check.due("rules before", bench.rules(), "02>1 12>0 31>2");
        bench.fill(1000 - bench.solver.count(2));
        check.due("run", bench.solver.run(1), 4);
        check.due("one rule went, one stays, no right word is reduced", bench.rules(), "12>0 31>2 2>");
        check.due("counts", bench.counts(), "4 3 1000 4 4 0 0 2 1");
        check.due("of two that end there the longer one", bench.reduced("3012"), "300");
        check.due("the shorter one alone", bench.reduced("3022"), "30");
        check.due("words in which none stands", bench.solver.words(2), 8);

        Bench inside = new Bench(4).equation("020", "").equation("121", "0").equation("2", "");
        inside.solver.run(2);
        inside.fill(1000 - inside.solver.count(2));
        inside.solver.run(1);
        check.due("rules", inside.rules(), "121>0 2>");
        check.due("the one that ends first, though inside another", inside.reduced("121"), "11");
        check.due("words without 2", inside.solver.words(3), 27);
    }

    /** Of 60 letters until the new rule, which stands in the right word, has made that short. */
    private void rightWordsAreReducedAheadOfOverlaps() {
        String left = "4".repeat(29) + "2";
        Bench bench = new Bench(6).equation("2" + "5".repeat(30), "0" + left).equation(left, "");
        check.due("run", bench.solver.run(2), 0);
        check.due("rules", bench.rules(), "2" + "5".repeat(30) + ">0 " + left + ">");
        check.due("counts", bench.counts(), "6 2 1 2 0 0 0 31 0");
    }

    private void manySteps() {
        Bench bench = new Bench(5).equation("01", "2").equation("12", "3").equation("23", "4").equation("34", "0")
                .equation("40", "1");
        PlainSolver plain = new PlainSolver();
        plain.begin(5);
        for (int i = 0; i < 5; i++) {
            plain.letter(0, i);
            plain.letter(0, (i + 1) % 5);
            plain.letter(1, (i + 2) % 5);
            plain.equation();
        }
        for (int i = 0; i < 4; i++) {
            check.due("run", bench.solver.run(500), plain.run(500));
            for (int what = 0; what <= 8; what++) {
                check.due("count " + what, bench.solver.count(what), plain.count(what));
            }
        }
        check.due("steps", bench.solver.count(3) > 1000, true);
    }

    /** Rules that count down in binary: the word of 40 letters would take some 2^40 turns. */
    private void reducingEnds() {
        Bench bench = new Bench(5).equation("10", "01").equation("20", "13").equation("31", "23").equation("34", "04");
        bench.solver.run(4);
        check.due("sixteen digits", bench.reduced("2".repeat(16) + "04"), "0" + "1".repeat(16) + "4");
        bench.tell(0, "2".repeat(38) + "04");
        check.due("thirty-eight digits", bench.solver.reduce(0), 40);
        check.due("thereafter", bench.reduced("2".repeat(16) + "04"), "0" + "1".repeat(16) + "4");
    }
}
