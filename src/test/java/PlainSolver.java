import java.util.ArrayDeque;
import java.util.ArrayList;
import java.util.HashMap;
import java.util.HashSet;
import java.util.List;
import java.util.Map;
import java.util.Set;

/**
 * The document, followed word by word and without a thought for speed: what WordSolver is compared
 * with. Words are texts of the digits 0 to 5.
 */
final class PlainSolver {
    private record Equation(String one, String other) {
    }

    private static final class Rule {
        private final String left;
        private String right;

        private Rule(String left, String right) {
            this.left = left;
            this.right = right;
        }
    }

    /** Leaves the step in which it is stopped. */
    private static final class Stop extends Exception {
        private static final long serialVersionUID = 1L;
        private final int why;

        private Stop(int why) {
            this.why = why;
        }
    }

    private int letters = 1;
    private final String[] told = {"", ""};
    private final List<Rule> rules = new ArrayList<>();
    private final ArrayDeque<Equation> waiting = new ArrayDeque<>();
    // What counting has found out for the rules as they are.
    private final Set<String> begins = new HashSet<>();
    private final Map<String, Long> waysKnown = new HashMap<>();
    private int stopped;
    private int steps;
    private int gone;

    int begin(int n) {
        argument(n >= 1 && n <= 6);
        int before = rules.size();
        letters = n;
        told[0] = "";
        told[1] = "";
        rules.clear();
        waiting.clear();
        forget();
        stopped = 0;
        steps = 0;
        gone = 0;
        return before;
    }

    int letter(int which, int letter) {
        argument(which == 0 || which == 1);
        argument(letter >= 0 && letter < letters);
        if (told[which].length() == 40) {
            return -1;
        }
        told[which] += letter;
        return told[which].length();
    }

    int erase(int which) {
        argument(which == 0 || which == 1);
        int before = told[which].length();
        told[which] = "";
        return before;
    }

    int equation() {
        going();
        if (waiting.size() == 1000) {
            return -1;
        }
        waiting.add(new Equation(told[0], told[1]));
        told[0] = "";
        told[1] = "";
        return waiting.size();
    }

    int inverse(int a, int b) {
        going();
        argument(a >= 0 && a < letters && b >= 0 && b < letters);
        if (waiting.size() > 998) {
            return -1;
        }
        waiting.add(new Equation("" + a + b, ""));
        waiting.add(new Equation("" + b + a, ""));
        return waiting.size();
    }

    int run(int n) {
        argument(n >= 0 && n <= 500);
        for (int i = 0; i < n && stopped == 0 && !waiting.isEmpty(); i++) {
            steps++;
            try {
                step();
            } catch (Stop stop) {
                stopped = stop.why;
            }
        }
        return state();
    }

    int reduce(int which) {
        argument(which == 0 || which == 1);
        told[which] = least(told[which]);
        return told[which].length();
    }

    int same() {
        if (least(told[0]).equals(least(told[1]))) {
            return 1;
        }
        return state() == 1 ? 0 : -1;
    }

    int at(int what, int i) {
        String word = null;
        if (what == 0 || what == 1) {
            word = told[what];
        }
        for (int k = 0; k < rules.size(); k++) {
            if (what == 2 + 2 * k) {
                word = rules.get(k).left;
            }
            if (what == 3 + 2 * k) {
                word = rules.get(k).right;
            }
        }
        return word == null || i < 0 || i >= word.length() ? -1 : word.charAt(i) - '0';
    }

    long words(int n) {
        argument(n >= 0 && n <= 20);
        return ways("", n);
    }

    long size() {
        int most = 1;
        for (Rule rule : rules) {
            most += rule.left.length();
        }
        Map<String, Long> level = Map.of("", 1L);
        long sum = 0;
        for (int n = 0; !level.isEmpty(); n++) {
            if (n > most) {
                return -1;
            }
            for (long here : level.values()) {
                sum += here;
            }
            level = oneMore(level);
        }
        return sum;
    }

    int find(long k) {
        if (k < 0) {
            return -1;
        }
        long left = k;
        int n = 0;
        while (n <= 20 && left >= ways("", n)) {
            left -= ways("", n);
            n++;
        }
        if (n > 20) {
            return -1;
        }
        String word = "";
        while (word.length() < n) {
            int letter = 0;
            while (left >= ways(word + letter, n - word.length() - 1)) {
                left -= ways(word + letter, n - word.length() - 1);
                letter++;
            }
            word += letter;
        }
        told[0] = word;
        return n;
    }

    long index() {
        String word = least(told[0]);
        if (word.length() > 20) {
            return -1;
        }
        long sum = 0;
        for (int n = 0; n < word.length(); n++) {
            sum += ways("", n);
        }
        for (int i = 0; i < word.length(); i++) {
            for (int letter = 0; letter < word.charAt(i) - '0'; letter++) {
                sum += ways(word.substring(0, i) + letter, word.length() - i - 1);
            }
        }
        return sum;
    }

    int order() {
        String word = "";
        for (int n = 1; n <= 200; n++) {
            word += told[0];
            if (word.length() > 40) {
                return -1;
            }
            word = least(word);
            if (word.isEmpty()) {
                return n;
            }
        }
        return -1;
    }

    int count(int what) {
        int longest = 0;
        for (Rule rule : rules) {
            longest = Math.max(longest, rule.left.length());
        }
        int[] counts = {letters, rules.size(), waiting.size(), steps, state(), told[0].length(), told[1].length(),
            longest, gone};
        return what >= 0 && what < counts.length ? counts[what] : -1;
    }

    private static void argument(boolean good) {
        if (!good) {
            throw new IllegalArgumentException();
        }
    }

    private void going() {
        if (stopped != 0) {
            throw new IllegalStateException();
        }
    }

    private int state() {
        if (stopped != 0) {
            return stopped;
        }
        return waiting.isEmpty() ? 1 : 0;
    }

    private static boolean isLesser(String one, String other) {
        return one.length() != other.length() ? one.length() < other.length() : one.compareTo(other) < 0;
    }

    private String least(String word) {
        String now = word;
        for (String then = replaceFirstEnding(now); then != null; then = replaceFirstEnding(now)) {
            now = then;
        }
        return now;
    }

    /** What one replacement makes of the word; null when no left word stands in it. */
    String replaceFirstEnding(String word) {
        for (int end = 1; end <= word.length(); end++) {
            Rule best = null;
            for (Rule rule : rules) {
                if (word.startsWith(rule.left, end - rule.left.length())
                        && (best == null || rule.left.length() > best.left.length())) {
                    best = rule;
                }
            }
            if (best != null) {
                return word.substring(0, end - best.left.length()) + best.right + word.substring(end);
            }
        }
        return null;
    }

    private void forget() {
        begins.clear();
        waysKnown.clear();
    }

    private void step() throws Stop {
        forget();
        Equation equation = waiting.remove();
        String one = least(equation.one());
        String other = least(equation.other());
        if (one.equals(other)) {
            return;
        }
        if (rules.size() == 64) {
            throw new Stop(3);
        }
        Rule newest = isLesser(one, other) ? new Rule(other, one) : new Rule(one, other);
        rules.add(newest);
        for (Rule rule : List.copyOf(rules)) {
            if (rule != newest && rule.left.contains(newest.left)) {
                await(rule.left, rule.right);
                rules.remove(rule);
                gone++;
            }
        }
        for (Rule rule : rules) {
            if (rule != newest) {
                rule.right = least(rule.right);
            }
        }
        for (Rule rule : rules) {
            overlap(newest, rule);
            if (rule != newest) {
                overlap(rule, newest);
            }
        }
    }

    private void overlap(Rule first, Rule second) throws Stop {
        String l = first.left;
        String m = second.left;
        for (int k = 1; k < l.length() && k < m.length(); k++) {
            if (l.endsWith(m.substring(0, k))) {
                await(first.right + m.substring(k), l.substring(0, l.length() - k) + second.right);
            }
        }
    }

    private void await(String one, String other) throws Stop {
        if (one.length() > 40 || other.length() > 40) {
            throw new Stop(2);
        }
        if (waiting.size() == 1000) {
            throw new Stop(4);
        }
        waiting.add(new Equation(one, other));
    }

    private boolean isFree(String word) {
        for (Rule rule : rules) {
            if (word.contains(rule.left)) {
                return false;
            }
        }
        return true;
    }

    /** How many free words begin so and have that many letters more. */
    private long ways(String begin, int more) {
        if (!isFree(begin)) {
            return 0;
        }
        String state = whatMatters(begin);
        Long known = waysKnown.get(state + "+" + more);
        if (known != null) {
            return known;
        }
        long sum = more == 0 ? 1 : 0;
        for (int letter = 0; letter < letters && more > 0; letter++) {
            sum += ways(state + letter, more - 1);
        }
        waysKnown.put(state + "+" + more, sum);
        return sum;
    }

    private Map<String, Long> oneMore(Map<String, Long> level) {
        Map<String, Long> next = new HashMap<>();
        for (Map.Entry<String, Long> entry : level.entrySet()) {
            for (int letter = 0; letter < letters; letter++) {
                String word = entry.getKey() + letter;
                if (isFree(word)) {
                    next.merge(whatMatters(word), entry.getValue(), Long::sum);
                }
            }
        }
        return next;
    }

    /** The longest end of the word that begins a left word: what comes behind it can meet no more of it. */
    private String whatMatters(String word) {
        if (begins.isEmpty()) {
            begins.add("");
            for (Rule rule : rules) {
                for (int i = 0; i < rule.left.length(); i++) {
                    begins.add(rule.left.substring(0, i));
                }
            }
        }
        for (int i = 0; i < word.length(); i++) {
            if (begins.contains(word.substring(i))) {
                return word.substring(i);
            }
        }
        return "";
    }
}
