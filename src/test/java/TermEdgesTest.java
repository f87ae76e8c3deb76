/**
 * The boundary cases that the document's terms name: what a word, a rule, reducing, a step are at their
 * least and at their most, and all that stops a solver. Above each test stands what the document says.
 */
public final class TermEdgesTest {
    private final Check check = new Check();

    public static void main(String[] args) {
        TermEdgesTest test = new TermEdgesTest();
        test.callsOfAnObject();
        test.letters();
        test.emptyWord();
        test.lesserIsTheShorter();
        test.lesserLetterWhereTheyDifferFirst();
        test.equationsWaitInARow();
        test.rowThatGoesRound();
        test.reducingNothing();
        test.reducingFullWords();
        test.reducingAsLongAsALeftWordStands();
        test.reducingWhatEndsFirst();
        test.reducingTheLonger();
        test.reducingToAnEmptyRightWord();
        test.reducingAnew();
        test.stepWithoutEquation();
        test.stepsAreCounted();
        test.sameWordsAreAll();
        test.newRuleIsTheLast();
        test.rulesGoOut();
        test.rulesGoOutBehindAllOthers();
        test.rulesGoOutAsTheyAre();
        test.rulesWithoutRoomStay();
        test.rightWordsOfOthers();
        test.overlapsFromOneOn();
        test.overlapsLessThanTheLengths();
        test.overlapsWithOthersBothWays();
        test.overlapsOfSameWords();
        test.stoppedByFirstWord();
        test.stoppedBySecondWord();
        test.stoppedByWordAtOnce();
        test.wordIsAskedAhead();
        test.stoppedByRule();
        test.stoppedByRuleAheadOfGoingOut();
        test.rowOfRulesIsFullButNoneIsNew();
        test.stoppedByEquation();
        test.stoppedByEquationAtOnce();
        test.stoppedForGood();
        test.stoppedStillServes();
        test.complete();
        test.sameUntilComplete();
        test.check.end();
    }

    /** "An object is used for at most 512 calls after it has been made": the last ones are served, too. */
    private void callsOfAnObject() {
        Bench bench = new Bench(2).nothings("11");
        while (bench.callsLeft() > 2) {
            bench.count(0);
        }
        check.due("call 511", bench.run(500), 1);
        check.due("call 512", bench.words(2), 3);
    }

    /** "LETTERS are 0 .. n - 1, n 1 .. 6." */
    private void letters() {
        for (int n = 1; n <= 6; n++) {
            int beyond = n;
            Bench bench = new Bench(n);
            check.due("letters", bench.count(0), n);
            check.due("the least letter", bench.letter(0, 0), 1);
            check.due("the greatest letter", bench.letter(0, n - 1), 2);
            check.throwsArgument("a letter too small", () -> bench.letter(0, -1));
            check.throwsArgument("a letter too large", () -> bench.letter(0, beyond));
            check.due("two letters that undo one another", bench.inverse(0, n - 1), 2);
            check.throwsArgument("a letter too large", () -> bench.inverse(0, beyond));
            check.due("words of one letter", bench.words(1), n);
        }
    }

    /** "WORDS are rows of letters; the empty one, too." */
    private void emptyWord() {
        Bench both = new Bench(2);
        check.due("an equation of nothing", both.equation(), 1);
        check.due("no rule of it", both.run(1), 1);
        check.due("no rule of it, counts", both.counts(), "2 0 0 1 1 0 0 0 0");
        Bench first = new Bench(2).equation("", "01");
        first.run(1);
        check.due("the first word is empty", first.rules(), "01>");
        Bench second = new Bench(2).equation("01", "");
        second.run(1);
        check.due("the second word is empty", second.rules(), "01>");
        check.due("the empty word has no left word in it", second.words(0), 1);
        check.due("it is the least", second.find(0), 0);
        check.due("its number", second.index(), 0);
        check.due("it is the same as itself", second.same(), 1);
        check.due("it is not the same as another", second.tell(1, "0").same(), 0);
    }

    /** "Of two words the LESSER one is the shorter" */
    private void lesserIsTheShorter() {
        String[][] pairs = {{"", "0"}, {"5", "00"}, {"5".repeat(39), "0".repeat(40)}, {"", "0".repeat(40)}};
        for (String[] pair : pairs) {
            lesserAndGreater(pair[0], pair[1]);
        }
    }

    /** "of two of one length the one with the lesser letter where they differ first." */
    private void lesserLetterWhereTheyDifferFirst() {
        String front = "1".repeat(39);
        String[][] pairs = {{"0", "1"}, {"4", "5"}, {"05", "10"}, {"0115", "0120"}, {front + "2", front + "3"},
            {"2" + front, "3" + "0".repeat(39)}, {front + "0", front + "5"}};
        for (String[] pair : pairs) {
            lesserAndGreater(pair[0], pair[1]);
        }
    }

    private void lesserAndGreater(String lesser, String greater) {
        for (int first = 0; first < 2; first++) {
            Bench bench = new Bench(6).equation(first == 0 ? lesser : greater, first == 0 ? greater : lesser);
            bench.run(1);
            check.due("rules", bench.rules(), greater + ">" + lesser);
            check.due("the lesser one is left", bench.reduced(greater), lesser);
        }
    }

    /** "rules stand in a row, the oldest first; EQUATIONS of two words wait in a row." */
    private void equationsWaitInARow() {
        Bench bench = new Bench(6).equation("30", "1").equation("40", "2").equation("50", "");
        for (String rules : new String[] {"30>1", "30>1 40>2", "30>1 40>2 50>"}) {
            bench.run(1);
            check.due("rules", bench.rules(), rules);
        }
    }

    /** More than a thousand come to wait, though never a thousand at once: the last ones, in their order, too. */
    private void rowThatGoesRound() {
        Bench bench = new Bench(6).equation("00", "0").equation("01", "0").equation("02", "0").equation("10", "0")
                .equation("20", "0");
        check.due("run", bench.run(500), 1);
        for (int half = 0; half < 2; half++) {
            for (int bits = 0; bits < 16; bits++) {
                bench.equation(Integer.toString(11111 + half * 10000 + spread(bits)), "0");
            }
            bench.run(half == 0 ? 500 : 16);
        }
        int come = bench.count(2) + bench.count(3);
        check.due("as many have come", come > 1000, true);
        bench.equation("344", "4").equation("345", "5").equation("354", "44").equation("355", "");
        bench.run(500);
        check.due("run", bench.run(500), 1);
        check.due("steps", bench.count(3), come + 4);
        check.due("the last rules", bench.rulesFrom(37), "344>4 345>5 354>44 355>");
    }

    /** The bits of a number as digits 0 and 1. */
    private static int spread(int bits) {
        return Integer.parseInt(Integer.toBinaryString(bits));
    }

    /** "REDUCING a word: as long as a left word stands in it": in the empty one there stands none. */
    private void reducingNothing() {
        Bench bench = Bench.triangle();
        check.due("reduce A", bench.reduce(0), 0);
        check.due("reduce B", bench.reduce(1), 0);
        check.due("order", bench.order(), 1);
        check.due("words", bench.told(), ",");
        check.due("without a rule", new Bench().reduce(0), 0);
    }

    /** Left words that stand at the very beginning, at the very end, are the whole of a word of 40 letters. */
    private void reducingFullWords() {
        String zeros = "0".repeat(39);
        check.due("no left word", reducedBy("0".repeat(40), "11"), "0".repeat(40));
        check.due("at the beginning", reducedBy("1" + zeros, "10"), "0".repeat(38));
        check.due("at the end", reducedBy(zeros + "1", "01"), "0".repeat(38));
        check.due("the whole word", reducedBy(zeros + "1", zeros + "1"), "");
        check.due("longer than the word", reducedBy(zeros, zeros + "1"), zeros);
        check.due("one letter", reducedBy("1" + "01".repeat(19) + "1", "1"), "0".repeat(19));
        check.due("the last letter alone", reducedBy(zeros + "1", "1"), zeros);
    }

    private static String reducedBy(String word, String left) {
        Bench bench = new Bench(2).nothings(left);
        bench.run(1);
        return bench.reduced(word);
    }

    /** "as long as a left word stands in it" */
    private void reducingAsLongAsALeftWordStands() {
        check.due("one behind the other", reducedBy("01".repeat(20), "01"), "");
        check.due("one inside the other", reducedBy("0".repeat(20) + "1".repeat(20), "01"), "");
        check.due("some letters are left", reducedBy("1".repeat(10) + "0".repeat(20) + "1".repeat(10), "01"),
                "1".repeat(10) + "0".repeat(10));
        Bench bench = new Bench(5).equation("10", "02").equation("20", "13").equation("32", "23").equation("34", "04");
        bench.run(4);
        check.due("very often", bench.reduced("2".repeat(38) + "04"), "0" + "2".repeat(38) + "4");
    }

    /** "of the places where one does the one that ends first" */
    private void reducingWhatEndsFirst() {
        Bench bench = new Bench(6).equation("0112", "4").equation("1123", "5").equation("33", "");
        bench.run(3);
        check.due("rules", bench.rules(), "0112>4 1123>5 33>");
        check.due("the first one ends first", bench.reduced("01123"), "43");
        check.due("of one left word, too", bench.reduced("333"), "3");

        Bench inside = new Bench(6).crowd("232", "4", "343", "", "3", "");
        inside.run(2);
        inside.fillTo(1000);
        check.due("run", inside.run(1), 4);
        check.due("343 stays, as it finds no room", inside.rulesFrom(Bench.CROWD_RULES), "343> 3>");
        check.due("it ends first, though another begins first", inside.reduced("2343"), "24");
    }

    /** "(of two that end there the longer one)": there are two when a rule found no room to wait. */
    private void reducingTheLonger() {
        Bench bench = new Bench(6).crowd("32", "4", "42", "3", "2", "");
        bench.run(2);
        bench.fillTo(1000);
        check.due("run", bench.run(1), 4);
        check.due("42 stays", bench.rulesFrom(Bench.CROWD_RULES), "42>3 2>");
        check.due("the longer one", bench.reduced("542"), "53");
        check.due("the shorter one where the longer does not stand", bench.reduced("522"), "5");
        check.due("both", bench.reduced("24242"), "33");
    }

    /** "there its right word (perhaps empty) takes its place" */
    private void reducingToAnEmptyRightWord() {
        Bench bench = new Bench(3).equation("012", "").equation("22", "1");
        bench.run(2);
        check.due("nothing in its place", bench.reduced("1012"), "1");
        check.due("nothing is left", bench.reduced("012012"), "");
        check.due("a word in its place", bench.reduced("1220"), "110");
    }

    /** "and it is looked through anew." */
    private void reducingAnew() {
        Bench bench = new Bench(3).equation("22", "1").equation("01", "").equation("10", "2");
        bench.run(3);
        check.due("rules", bench.rules(), "22>1 01> 10>2");
        check.due("what stood in front and the right word", bench.reduced("022"), "");
        check.due("the right word and what stands behind", bench.reduced("220"), "2");
        Bench far = new Bench(3).equation("2", "1").equation("0" + "1".repeat(39), "");
        far.run(2);
        check.due("it begins 39 letters ahead", far.reduced("0" + "2".repeat(39)), "");
    }

    /** "A STEP, when an equation waits": when none does, there is none. */
    private void stepWithoutEquation() {
        Bench bench = new Bench(2);
        check.due("run", bench.run(500), 1);
        check.due("steps", bench.count(3), 0);
        bench.equation("1", "0");
        check.due("run", bench.run(500), 1);
        check.due("steps", bench.count(3), 1);
    }

    /** "(all are counted, also those that change nothing or in which it is stopped)" */
    private void stepsAreCounted() {
        Bench bench = new Bench(2).equation("01", "01").equation("", "");
        bench.run(500);
        check.due("two that change nothing", bench.count(3), 2);
        check.due("stopped by a word", Bench.stopped().count(3), 1);
        check.due("stopped by a rule", Bench.stoppedByRule().count(3), 65);
        check.due("stopped by an equation", Bench.stoppedByEquation().count(3), 33);
    }

    /** "both its words are reduced. If they are the same now, that is all." */
    private void sameWordsAreAll() {
        Bench bench = new Bench(3).equation("00", "").equation("1001", "0110").equation("11", "");
        bench.run(1);
        int waiting = bench.count(2);
        check.due("one waits of 00 and itself", waiting, 3);
        bench.run(1);
        check.due("not the same yet", bench.rules(), "00> 0110>11");
        Bench later = new Bench(3).equation("00", "").equation("11", "").equation("1001", "0110");
        later.run(2);
        String before = later.rules();
        waiting = later.count(2);
        later.run(1);
        check.due("the same now: no rule", later.rules(), before);
        check.due("no equation", later.count(2), waiting - 1);
    }

    /** "Else the greater one, l, and the lesser one, r, are a new rule, the last of the row" */
    private void newRuleIsTheLast() {
        Bench bench = new Bench(6).equation("5", "4").equation("00", "53").equation("3", "2");
        bench.run(1);
        check.due("the first rule", bench.rules(), "5>4");
        bench.run(1);
        check.due("greater than the first, and behind it; both words are reduced", bench.rules(), "5>4 43>00");
    }

    /** "each other rule whose left word has l in it goes out of the row" */
    private void rulesGoOut() {
        Bench bench = new Bench(6).equation("20", "").equation("321", "").equation("42", "").equation("55", "12")
                .equation("2", "");
        bench.run(4);
        check.due("in front, inside, behind, and in a right word", bench.rules(), "20> 321> 42> 55>12");
        bench.run(1);
        check.due("not that with it in the right word, not the new one", bench.rules(), "55>1 2>");
        check.due("gone", bench.count(8), 3);
        Bench almost = new Bench(6).equation("2232", "").equation("3322", "").equation("222", "");
        almost.run(3);
        check.due("a part of l is not enough", almost.rules(), "2232> 3322> 222>");
        check.due("none is gone", almost.count(8), 0);
        Bench longest = new Bench(6).nothings("4" + "3".repeat(39)).nothings("3".repeat(39));
        longest.run(2);
        check.due("39 letters in 40", longest.rules(), "3".repeat(39) + ">");
    }

    /** "and waits as an equation, behind all others (its left word, its right word as they are), the oldest first" */
    private void rulesGoOutBehindAllOthers() {
        Bench bench = new Bench(6).equation("21", "").equation("324", "").equation("52", "0").equation("2", "");
        bench.run(3);
        check.due("before", bench.rules(), "21> 324> 52>0");
        check.due("521 waits behind the fourth", bench.count(2), 2);
        String[] due = {"2>", "2> 01>5", "2> 1>", "2> 1> 34>", "2> 1> 34> 5>0", "2> 1> 34> 5>0"};
        int[] waiting = {4, 3, 3, 2, 1, 0};
        for (int i = 0; i < due.length; i++) {
            bench.run(1);
            check.due("rules after step " + (4 + i), bench.rules(), due[i]);
            check.due("waiting after step " + (4 + i), bench.count(2), waiting[i]);
        }
        check.due("gone: 21, 324, 52 and 01", bench.count(8), 4);
    }

    /** "(its left word, its right word as they are)": 34 comes to be 1 only while they wait. */
    private void rulesGoOutAsTheyAre() {
        Bench left = new Bench(6).equation("342", "").equation("42", "5").equation("34", "1");
        left.run(4);
        check.due("342 waited, not 35", left.rules(), "42>5 34>1 12>");
        Bench right = new Bench(6).equation("4200", "342").equation("42", "5").equation("34", "1");
        right.run(4);
        check.due("342 waited, not 35", right.rules(), "42>5 34>1 500>12");
    }

    /** "(one that finds no room to wait stays in the row)" */
    private void rulesWithoutRoomStay() {
        String[] told = {"32", "4", "42", "3", "52", "", "2", ""};
        String[] due = {"42>3 52> 2>", "52> 2>", "2>"};
        for (int room = 0; room < 3; room++) {
            Bench bench = new Bench(6).crowd(told);
            bench.run(3);
            bench.fillTo(1000 - room);
            check.due("run", bench.run(1), room == 2 ? 0 : 4);
            check.due("room for " + (room + 1), bench.rulesFrom(Bench.CROWD_RULES), due[room]);
            check.due("gone", bench.count(8), room + 1);
            check.due("a thousand wait", bench.count(2), 1000);
            check.due("rules", bench.count(1), Bench.CROWD_RULES + 3 - room);
        }
    }

    /**
     * "of each other rule the right word is reduced, by all rules as they are then (the new one, too), the
     * oldest first"
     */
    private void rightWordsOfOthers() {
        Bench bench = new Bench(6).equation("55", "32").equation("44", "").equation("35", "31").equation("3", "0");
        bench.run(3);
        check.due("before", bench.rules(), "55>32 44> 35>31");
        bench.run(1);
        check.due("35 goes out, an empty word stays empty", bench.rules(), "55>02 44> 3>0");
        Bench full = new Bench(6).equation("5" + "0".repeat(39), "43".repeat(20)).equation("43", "");
        full.run(2);
        check.due("a right word of 40 letters becomes empty", full.rules(), "5" + "0".repeat(39) + "> 43>");
        Bench order = new Bench(6).equation("303", "54").equation("222222", "13543").equation("15", "2")
                .equation("54", "0");
        order.run(3);
        check.due("before", order.rules(), "303>54 222222>13543 15>2");
        order.run(1);
        check.due("1303 becomes 10, not 154", order.rules(), "303>0 222222>10 15>2 54>0");
    }

    /** "for k from 1 on" */
    private void overlapsFromOneOn() {
        Bench bench = new Bench(6).equation("0" + "1".repeat(38) + "0", "");
        bench.run(1);
        check.due("one letter, of itself", bench.count(2), 1);
        bench.run(1);
        check.due("what is left of it", bench.rules(), "1".repeat(38) + "0>0" + "1".repeat(38));
        Bench two = new Bench(6).equation("10", "2").equation("03", "4");
        two.run(2);
        check.due("one letter, of two", two.count(2), 1);
        two.run(1);
        check.due("23 and 14", two.rules(), "10>2 03>4 23>14");
    }

    /** "k less than the lengths of l and its left word m" */
    private void overlapsLessThanTheLengths() {
        for (int length = 1; length <= 40; length++) {
            Bench bench = new Bench(2).nothings("1".repeat(length));
            check.due("run", bench.run(1), length == 1 ? 1 : 0);
            check.due(length + " letters with themselves", bench.count(2), length - 1);
        }
        Bench shorter = new Bench(6).nothings("1".repeat(5) + "2", "3" + "1".repeat(39));
        shorter.run(2);
        check.due("five of 40 and of 6", shorter.count(2), 5);
        Bench longer = new Bench(6).nothings("3" + "1".repeat(39), "1".repeat(5) + "2");
        longer.run(2);
        check.due("the other way round", longer.count(2), 5);
        Bench single = new Bench(6).nothings("2", "313", "1");
        single.run(2);
        int before = single.count(2);
        single.run(1);
        check.due("none with a left word of one letter, but 313 waits", single.count(2), before - 1 + 1);
    }

    /** "Then, unless it is the new one itself, the same for all k with it for the new one and the new one for it." */
    private void overlapsWithOthersBothWays() {
        Bench bench = new Bench(6).equation("012", "3").equation("120", "4");
        bench.run(2);
        check.due("one each way, none of the new one twice", bench.count(2), 2);
        bench.run(1);
        check.due("the new one in front", bench.rules(), "012>3 120>4 412>123");
        bench.run(1);
        check.due("the new one behind", bench.rules(), "012>3 120>4 412>123 30>04");
    }

    /** "(Also equations of two words that are the same.)" */
    private void overlapsOfSameWords() {
        Bench bench = new Bench(1).nothings("00");
        check.due("run", bench.run(1), 0);
        check.due("0 and 0 wait", bench.counts(), "1 1 1 1 0 0 0 2 0");
        check.due("run", bench.run(1), 1);
        check.due("their step", bench.counts(), "1 1 0 2 1 0 0 2 0");
    }

    /**
     * "when a word of an equation would be longer than 40 letters": the right word and the rest of the
     * other left word.
     */
    private void stoppedByFirstWord() {
        String left = "1" + "0".repeat(19) + "1";
        Bench fits = new Bench(2).equation(left, "0".repeat(20));
        check.due("40 letters fit", fits.run(1), 0);
        check.due("40 letters fit, counts", fits.counts(), "2 1 1 1 0 0 0 21 0");
        Bench bench = new Bench(2).equation(left, "0".repeat(21)).equation("1", "0");
        check.due("41 letters", bench.run(500), 2);
        check.due("41 letters, counts", bench.counts(), "2 1 1 1 2 0 0 21 0");
        check.due("the rule stays", bench.rules(), left + ">" + "0".repeat(21));
        // The second word is short: 12 letters of the right word, and 30 without the first.
        for (int length : new int[] {11, 12}) {
            Bench first = new Bench(4).equation("2" + "1".repeat(28) + "3", "")
                    .equation("1" + "0".repeat(length - 2) + "2", "0".repeat(length - 1) + "2");
            check.due("run", first.run(2), length == 11 ? 0 : 2);
            check.due("counts", first.counts(), length == 11 ? "4 2 1 2 0 0 0 30 0" : "4 2 0 2 2 0 0 30 0");
        }
    }

    /** The same, of the other word: the left word without its last letters, and the other rule's right word. */
    private void stoppedBySecondWord() {
        for (int length : new int[] {11, 12}) {
            String left = "2" + "0".repeat(length - 1);
            String right = "1" + "0".repeat(length - 1);
            Bench bench = new Bench(4).equation(left, right).equation("3" + "1".repeat(28) + "2", "");
            check.due("run", bench.run(2), length == 11 ? 0 : 2);
            check.due("counts", bench.counts(), length == 11 ? "4 2 1 2 0 0 0 30 0" : "4 2 0 2 2 0 0 30 0");
        }
    }

    /** "STOPPED is the solver, at once": of 41 letters for k = 1; those for greater k would fit, and do not wait. */
    private void stoppedByWordAtOnce() {
        Bench bench = new Bench(4).equation("31", "").equation("1".repeat(21), "0".repeat(21)).equation("12", "");
        check.due("run", bench.run(500), 2);
        check.due("what waited before, and 31 with the new one", bench.counts(), "4 2 2 2 2 0 0 21 0");
        check.due("rules", bench.rules(), "31> " + "1".repeat(21) + ">" + "0".repeat(21));
    }

    /** "(asked ahead of the next)": when the row is full, too, it is the word. */
    private void wordIsAskedAhead() {
        String l = "3".repeat(21);
        String r = "2".repeat(21);
        Bench one = new Bench(6).crowd("43", "", l, r);
        one.run(1);
        one.fillTo(1000);
        check.due("the thousandth is of 43 and the new one, then a word is too long", one.run(1), 2);
        check.due("counts", one.counts(), "6 34 1000 34 2 0 0 21 0");
        Bench two = new Bench(6).crowd("43", "", "53", "", l, r);
        two.run(2);
        two.fillTo(1000);
        check.due("the next is of 53 and the new one", two.run(1), 4);
        check.due("counts", two.counts(), "6 35 1000 35 4 0 0 21 0");
    }

    /** "there would be a 65th rule (its equation is gone)" */
    private void stoppedByRule() {
        Bench bench = Bench.manyRules(64).nothings("5222", "5221");
        check.due("64 rules", bench.run(64), 0);
        check.due("64 rules, counts", bench.counts(), "6 64 2 64 0 0 0 4 0");
        check.due("the 65th", bench.run(500), 3);
        check.due("the 65th, counts", bench.counts(), "6 64 1 65 3 0 0 4 0");
        check.due("the last rule", bench.word(2 + 2 * 63), "3012");
        check.due("no rule behind it", bench.at(2 + 2 * 64, 0), -1);
        check.due("it is no rule", bench.reduced("5222"), "5222");
    }

    /** The new rule would be the 65th, whatever would go out then. */
    private void stoppedByRuleAheadOfGoingOut() {
        Bench bench = Bench.manyRules(64).nothings("3");
        bench.run(64);
        check.due("run", bench.run(1), 3);
        check.due("counts", bench.counts(), "6 64 0 65 3 0 0 4 0");
    }

    /** 64 rules are not too many as long as no other comes. */
    private void rowOfRulesIsFullButNoneIsNew() {
        Bench bench = Bench.manyRules(64).nothings("3000", "").equation("40001", "15000");
        bench.run(64);
        check.due("run", bench.run(500), 1);
        check.due("counts", bench.counts(), "6 64 0 67 1 0 0 4 0");
        Bench more = Bench.manyRules(63).nothings("3");
        check.due("the 64th, and others go out", more.run(64), 0);
        check.due("counts", more.counts(), "6 43 21 64 0 0 0 4 21");
    }

    /** "or more than 1000 equations would wait" */
    private void stoppedByEquation() {
        Bench fits = new Bench(6).crowd("222", "").fillTo(999);
        check.due("a thousand", fits.run(1), 0);
        check.due("a thousand, counts", fits.counts(), "6 33 1000 33 0 0 0 5 0");
        Bench full = new Bench(6).crowd("222", "").fillTo(1000);
        check.due("one more", full.run(1), 4);
        check.due("one more, counts", full.counts(), "6 33 1000 33 4 0 0 5 0");
        Bench none = new Bench(6).crowd("23", "").fillTo(1000);
        check.due("no new equation", none.run(1), 0);
        check.due("no new equation, counts", none.counts(), "6 33 999 33 0 0 0 5 0");
    }

    /** "at once": no right word is reduced any more when a rule that should go out finds no room. */
    private void stoppedByEquationAtOnce() {
        Bench bench = new Bench(6).crowd("32", "4", "42", "3", "54", "2", "2", "");
        bench.run(3);
        bench.fillTo(1000);
        check.due("run", bench.run(1), 4);
        check.due("42 and the right word 2 stay", bench.rulesFrom(Bench.CROWD_RULES), "42>3 54>2 2>");
    }

    /** "and for good" and "what was done until then stays" */
    private void stoppedForGood() {
        Bench[] benches = {Bench.stopped(), Bench.stoppedByRule(), Bench.stoppedByEquation()};
        for (int i = 0; i < benches.length; i++) {
            Bench bench = benches[i];
            String before = bench.counts();
            for (int n : new int[] {0, 1, 500}) {
                check.due("run", bench.run(n), 2 + i);
            }
            bench.letter(0, 1);
            bench.reduce(0);
            bench.find(0);
            check.throwsState("equation", () -> bench.equation());
            check.throwsState("inverse", () -> bench.inverse(0, 0));
            check.due("no step, no rule, no equation more or less", bench.counts(), before);
        }
    }

    /** "words can still be told, reduced, counted." */
    private void stoppedStillServes() {
        Bench word = Bench.stopped();
        String left = "1" + "0".repeat(19) + "1";
        serves(word, left + "1", "0".repeat(21) + "1");
        check.due("words of 20 letters", word.words(20), 1 << 20);
        Bench rule = Bench.stoppedByRule();
        serves(rule, "13000", "1");
        check.due("words of 4 letters", rule.words(4), 1296 - 64);
        Bench equation = Bench.stoppedByEquation();
        serves(equation, "5011103", "500003");
        check.due("words of 3 letters", equation.words(3), 215);
    }

    private void serves(Bench bench, String word, String reduced) {
        check.due("letters come behind", bench.tell(0, word).count(5), word.length());
        check.due("same", bench.tell(1, reduced).same(), 1);
        check.due("reduce", bench.reduce(0), reduced.length());
        check.due("reduced", bench.word(0), reduced);
        check.due("not known", bench.tell(1, "0").same(), -1);
        check.due("erase", bench.erase(0), reduced.length());
        check.due("index", bench.index(), 0);
        check.due("order", bench.order(), 1);
        check.due("find", bench.find(2), 1);
        check.due("found", bench.word(0), "1");
        check.due("index", bench.index(), 2);
        check.due("size", bench.size(), -1);
    }

    /** "COMPLETE it is when none waits and it is not stopped." */
    private void complete() {
        check.due("none waits", new Bench().run(0), 1);
        Bench waits = new Bench(2).nothings("01");
        check.due("one waits", waits.run(0), 0);
        check.due("none waits any more", waits.run(1), 1);
        waits.equation();
        check.due("one waits again", waits.count(4), 0);
        Bench stopped = Bench.stopped();
        check.due("none waits", stopped.count(2), 0);
        check.due("but it is stopped", stopped.count(4), 2);
        check.due("so what is not the same when it is reduced is not known", stopped.tell(0, "1").same(), -1);
    }

    /** "until then words that reducing makes the same are." */
    private void sameUntilComplete() {
        Bench bench = new Bench(2).nothings("00", "11");
        bench.tell(0, "0").tell(1, "000");
        check.due("not known without a rule", bench.same(), -1);
        bench.run(1);
        check.due("the same, though not complete", bench.same(), 1);
        check.due("not known yet", bench.tell(1, "110").same(), -1);
        check.due("run", bench.run(500), 1);
        check.due("the same", bench.same(), 1);
        check.due("not the same", bench.tell(1, "11").same(), 0);
    }
}
