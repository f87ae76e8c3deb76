import java.util.Arrays;

/**
 * A solver for words: which words are the same by some equations is found out by rules that make
 * words lesser, made of the equations step by step until none is missing; then each word has one
 * least word, these are counted, numbered, multiplied.
 */
public final class WordSolver {
    public static final int NONE = -1;

    private static final int MOST_LETTERS = 6;
    private static final int LONGEST = 40;
    private static final int MOST_RULES = 64;
    private static final int MOST_WAITING = 1000;
    private static final int MOST_STEPS = 500;
    private static final int LONGEST_NUMBERED = 20;
    private static final int MOST_TIMES = 200;

    private static final int EQUATIONS_WAIT = 0;
    private static final int COMPLETE = 1;
    private static final int STOPPED_BY_WORD = 2;
    private static final int STOPPED_BY_RULE = 3;
    private static final int STOPPED_BY_EQUATION = 4;
    private static final int NOT_STOPPED = 0;

    private final Word a = new Word();
    private final Word b = new Word();
    // Rows to work in, so that no call makes any.
    private final Word one = new Word();
    private final Word other = new Word();
    private final Word front = new Word();
    private final Word behind = new Word();

    private final Rules rules = new Rules();
    private final Waiting waiting = new Waiting();
    private final Matcher matcher = new Matcher(rules);
    private final Reducer reducer = new Reducer(rules, matcher);
    private final Census census = new Census(matcher);

    private int letters = 1;
    private int stopped = NOT_STOPPED;
    private int steps;
    private int rulesGone;

    public WordSolver() {
    }

    public int begin(int n) throws IllegalArgumentException {
        if (n < 1 || n > MOST_LETTERS) {
            throw new IllegalArgumentException("letters are 1 to 6");
        }
        int before = rules.number;
        letters = n;
        a.clear();
        b.clear();
        rules.clear();
        waiting.clear();
        stopped = NOT_STOPPED;
        steps = 0;
        rulesGone = 0;
        return before;
    }

    public int letter(int which, int letter) throws IllegalArgumentException {
        if (!isTold(which) || !isLetter(letter)) {
            throw new IllegalArgumentException("no such word or letter");
        }
        Word word = told(which);
        return word.push(letter) ? word.length : NONE;
    }

    public int erase(int which) throws IllegalArgumentException {
        if (!isTold(which)) {
            throw new IllegalArgumentException("no such word");
        }
        Word word = told(which);
        int before = word.length;
        word.clear();
        return before;
    }

    public int equation() throws IllegalStateException {
        if (stopped != NOT_STOPPED) {
            throw new IllegalStateException("stopped");
        }
        if (!waiting.hasRoom(1)) {
            return NONE;
        }
        waiting.add(a, b);
        a.clear();
        b.clear();
        return waiting.number;
    }

    public int inverse(int a, int b) throws IllegalStateException, IllegalArgumentException {
        if (stopped != NOT_STOPPED) {
            throw new IllegalStateException("stopped");
        }
        if (!isLetter(a) || !isLetter(b)) {
            throw new IllegalArgumentException("no such letter");
        }
        if (!waiting.hasRoom(2)) {
            return NONE;
        }
        addUndoing(a, b);
        addUndoing(b, a);
        return waiting.number;
    }

    public int run(int n) throws IllegalArgumentException {
        if (n < 0 || n > MOST_STEPS) {
            throw new IllegalArgumentException("steps are 0 to 500");
        }
        reducer.rest();
        for (int i = 0; i < n && state() == EQUATIONS_WAIT; i++) {
            step();
        }
        return state();
    }

    public int reduce(int which) throws IllegalArgumentException {
        if (!isTold(which)) {
            throw new IllegalArgumentException("no such word");
        }
        Word word = told(which);
        reducer.rest();
        reducer.lessen(word);
        return word.length;
    }

    public int same() {
        one.copy(a);
        other.copy(b);
        reducer.rest();
        reducer.lessen(one);
        reducer.lessen(other);
        if (one.isLike(other)) {
            return 1;
        }
        return state() == COMPLETE ? 0 : NONE;
    }

    public int at(int what, int i) {
        if (what < 0) {
            return NONE;
        }
        if (isTold(what)) {
            return told(what).letterAt(i);
        }
        int rule = what / 2 - 1;
        if (rule >= rules.number) {
            return NONE;
        }
        Word word = what % 2 == 0 ? rules.lefts[rule] : rules.rights[rule];
        return word.letterAt(i);
    }

    public long words(int n) throws IllegalArgumentException {
        if (n < 0 || n > LONGEST_NUMBERED) {
            throw new IllegalArgumentException("lengths are 0 to 20");
        }
        census.keepUp(letters, n);
        return census.ofLength(n);
    }

    public long size() {
        census.keepUp(letters, 0);
        return census.ofAnyLength();
    }

    public int find(long k) {
        if (k < 0) {
            return NONE;
        }
        long left = k;
        for (int n = 0; n <= LONGEST_NUMBERED; n++) {
            census.keepUp(letters, n);
            long here = census.ofLength(n);
            if (left < here) {
                census.spell(a, n, left);
                return n;
            }
            left -= here;
        }
        return NONE;
    }

    public long index() {
        one.copy(a);
        reducer.rest();
        reducer.lessen(one);
        if (one.length > LONGEST_NUMBERED) {
            return NONE;
        }
        census.keepUp(letters, one.length);
        long number = census.lesserOfItsLength(one);
        for (int n = 0; n < one.length; n++) {
            number += census.ofLength(n);
        }
        return number;
    }

    public int order() {
        one.clear();
        reducer.rest();
        for (int n = 1; n <= MOST_TIMES; n++) {
            if (one.length + a.length > LONGEST) {
                return NONE;
            }
            one.add(a, 0, a.length);
            reducer.lessen(one);
            if (one.length == 0) {
                return n;
            }
        }
        return NONE;
    }

    public int count(int what) {
        switch (what) {
            case 0:
                return letters;
            case 1:
                return rules.number;
            case 2:
                return waiting.number;
            case 3:
                return steps;
            case 4:
                return state();
            case 5:
                return a.length;
            case 6:
                return b.length;
            case 7:
                return rules.longestLeft();
            case 8:
                return rulesGone;
            default:
                return NONE;
        }
    }

    private static boolean isTold(int which) {
        return which == 0 || which == 1;
    }

    private Word told(int which) {
        return which == 0 ? a : b;
    }

    private boolean isLetter(int letter) {
        return letter >= 0 && letter < letters;
    }

    private int state() {
        if (stopped != NOT_STOPPED) {
            return stopped;
        }
        return waiting.number > 0 ? EQUATIONS_WAIT : COMPLETE;
    }

    private void addUndoing(int letter, int undoing) {
        front.clear();
        behind.clear();
        front.push(letter);
        front.push(undoing);
        waiting.add(front, behind);
    }

    private void step() {
        steps++;
        waiting.take(one, other);
        reducer.lessen(one);
        reducer.lessen(other);
        if (one.isLike(other)) {
            return;
        }
        if (rules.number >= MOST_RULES) {
            stopped = STOPPED_BY_RULE;
            return;
        }
        if (one.isLesserThan(other)) {
            rules.add(other, one);
        } else {
            rules.add(one, other);
        }
        putOutOthers();
        if (stopped == NOT_STOPPED) {
            lessenRights();
            meetAll();
        }
    }

    private void putOutOthers() {
        int others = rules.number - 1;
        Word newest = rules.lefts[others];
        int k = 0;
        for (int seen = 0; seen < others; seen++) {
            if (!rules.lefts[k].holds(newest)) {
                k++;
            } else if (waiting.hasRoom(1)) {
                waiting.add(rules.lefts[k], rules.rights[k]);
                rules.remove(k);
                rulesGone++;
            } else {
                stopped = STOPPED_BY_EQUATION;
                return;
            }
        }
    }

    private void lessenRights() {
        for (int k = 0; k < rules.number - 1; k++) {
            reducer.lessen(rules.rights[k]);
        }
    }

    private void meetAll() {
        int newest = rules.number - 1;
        for (int k = 0; k <= newest; k++) {
            meet(newest, k);
            if (k != newest) {
                meet(k, newest);
            }
        }
    }

    /** Once it is stopped nothing more may wait, so this does nothing then. */
    private void meet(int first, int second) {
        Word l = rules.lefts[first];
        Word m = rules.lefts[second];
        int end = Math.min(l.length, m.length);
        for (int k = 1; k < end && stopped == NOT_STOPPED; k++) {
            if (l.endsAsBegins(m, k)) {
                addMeeting(first, second, k);
            }
        }
    }

    private void addMeeting(int first, int second, int k) {
        Word l = rules.lefts[first];
        Word r = rules.rights[first];
        Word m = rules.lefts[second];
        Word s = rules.rights[second];
        if (r.length + m.length - k > LONGEST || l.length - k + s.length > LONGEST) {
            stopped = STOPPED_BY_WORD;
        } else if (!waiting.hasRoom(1)) {
            stopped = STOPPED_BY_EQUATION;
        } else {
            front.copy(r);
            front.add(m, k, m.length);
            behind.clear();
            behind.add(l, 0, l.length - k);
            behind.add(s, 0, s.length);
            waiting.add(front, behind);
        }
    }

    /** A row of at most 40 letters. */
    private static final class Word {
        static final int PACKED = 20;

        final byte[] letters = new byte[LONGEST];
        int length;

        void clear() {
            length = 0;
        }

        boolean push(int letter) {
            if (length >= LONGEST) {
                return false;
            }
            letters[length] = (byte) letter;
            length++;
            return true;
        }

        int letterAt(int i) {
            return i >= 0 && i < length ? letters[i] : NONE;
        }

        void copy(Word from) {
            System.arraycopy(from.letters, 0, letters, 0, from.length);
            length = from.length;
        }

        /** The letters from begin on, up to end, come behind; nothing when they find no room. */
        void add(Word from, int begin, int end) {
            int more = end - begin;
            if (more > 0 && length + more <= LONGEST) {
                System.arraycopy(from.letters, begin, letters, length, more);
                length += more;
            }
        }

        boolean isLike(Word word) {
            return length == word.length && differsAt(word) == length;
        }

        boolean isLesserThan(Word word) {
            if (length != word.length) {
                return length < word.length;
            }
            int i = differsAt(word);
            return i < length && letters[i] < word.letters[i];
        }

        /** For words of one length. */
        int differsAt(Word word) {
            int i = 0;
            while (i < length && letters[i] == word.letters[i]) {
                i++;
            }
            return i;
        }

        boolean holds(Word part) {
            for (int from = 0; from + part.length <= length; from++) {
                if (agrees(from, part, part.length)) {
                    return true;
                }
            }
            return false;
        }

        boolean endsAsBegins(Word next, int k) {
            return agrees(length - k, next, k);
        }

        private boolean agrees(int from, Word begin, int k) {
            for (int i = 0; i < k; i++) {
                if (letters[from + i] != begin.letters[i]) {
                    return false;
                }
            }
            return true;
        }

        /** A letter is kept as one more than it is, so that 0 tells the end. */
        long packed(int from) {
            int end = from + PACKED < length ? from + PACKED : length;
            long bits = 0;
            for (int i = end - 1; i >= from; i--) {
                bits = bits << 3 | letters[i] + 1;
            }
            return bits;
        }

        void pushPacked(long packed) {
            for (long bits = packed; bits != 0; bits >>>= 3) {
                push((int) (bits & 7) - 1);
            }
        }
    }

    /** The row of rules, the oldest first. */
    private static final class Rules {
        final Word[] lefts = new Word[MOST_RULES];
        final Word[] rights = new Word[MOST_RULES];
        int number;
        // Tells those who look at the left words that these have changed.
        int version = 1;

        Rules() {
            for (int k = 0; k < MOST_RULES; k++) {
                lefts[k] = new Word();
                rights[k] = new Word();
            }
        }

        void clear() {
            number = 0;
            version++;
        }

        void add(Word left, Word right) {
            if (number < MOST_RULES) {
                lefts[number].copy(left);
                rights[number].copy(right);
                number++;
                version++;
            }
        }

        /** The two words go behind the row, where they are used again. */
        void remove(int rule) {
            Word left = lefts[rule];
            Word right = rights[rule];
            for (int k = rule; k + 1 < number; k++) {
                lefts[k] = lefts[k + 1];
                rights[k] = rights[k + 1];
            }
            number--;
            lefts[number] = left;
            rights[number] = right;
            version++;
        }

        int longestLeft() {
            int longest = 0;
            for (int k = 0; k < number; k++) {
                longest = Math.max(longest, lefts[k].length);
            }
            return longest;
        }

        int lettersOfLefts() {
            int sum = 0;
            for (int k = 0; k < number; k++) {
                sum += lefts[k].length;
            }
            return sum;
        }
    }

    /** The equations that wait, in a ring; packed, as a thousand rows of letters would fill the room. */
    private static final class Waiting {
        static final int PARTS = 4;

        final long[] ring = new long[MOST_WAITING * PARTS];
        int first;
        int number;

        void clear() {
            first = 0;
            number = 0;
        }

        boolean hasRoom(int more) {
            return number + more <= MOST_WAITING;
        }

        void add(Word one, Word other) {
            if (hasRoom(1)) {
                int place = (first + number) % MOST_WAITING * PARTS;
                ring[place] = one.packed(0);
                ring[place + 1] = one.packed(Word.PACKED);
                ring[place + 2] = other.packed(0);
                ring[place + 3] = other.packed(Word.PACKED);
                number++;
            }
        }

        void take(Word one, Word other) {
            one.clear();
            other.clear();
            if (number > 0) {
                int place = first * PARTS;
                one.pushPacked(ring[place]);
                one.pushPacked(ring[place + 1]);
                other.pushPacked(ring[place + 2]);
                other.pushPacked(ring[place + 3]);
                first = (first + 1) % MOST_WAITING;
                number--;
            }
        }
    }

    /**
     * Reads a word letter by letter; its state is the longest end of what it has read that begins a
     * left word.
     */
    private static final class Matcher {
        static final int START = 0;
        // Most rule rows are short: the full rows are made only for those that are not.
        static final int FEW_STATES = 96;
        static final int MOST_STATES = 1 + MOST_RULES * LONGEST;

        final Rules rules;
        int[] next = new int[FEW_STATES * MOST_LETTERS];
        // The state of the longest lesser end.
        int[] back = new int[FEW_STATES];
        // The rule with the longest left word that ends here.
        int[] ending = new int[FEW_STATES];
        int[] queue = new int[FEW_STATES];
        int states;
        int version;

        Matcher(Rules rules) {
            this.rules = rules;
        }

        void keepUp() {
            if (version == rules.version) {
                return;
            }
            version = rules.version;
            makeRoom(1 + rules.lettersOfLefts());
            states = 1;
            for (int k = 0; k < rules.number; k++) {
                plant(rules.lefts[k], k);
            }
            link();
        }

        int after(int state, int letter) {
            return next[state * MOST_LETTERS + letter];
        }

        boolean isFree(int state) {
            return ending[state] == NONE;
        }

        private void makeRoom(int needed) {
            if (needed > back.length) {
                next = new int[MOST_STATES * MOST_LETTERS];
                back = new int[MOST_STATES];
                ending = new int[MOST_STATES];
                queue = new int[MOST_STATES];
            }
            Arrays.fill(next, 0, needed * MOST_LETTERS, START);
            Arrays.fill(back, 0, needed, START);
            Arrays.fill(ending, 0, needed, NONE);
        }

        /** Until the states are linked, START as the next one means that there is none. */
        private void plant(Word left, int rule) {
            int state = START;
            for (int i = 0; i < left.length; i++) {
                int place = state * MOST_LETTERS + left.letters[i];
                if (next[place] == START) {
                    next[place] = states;
                    states++;
                }
                state = next[place];
            }
            if (ending[state] == NONE) {
                ending[state] = rule;
            }
        }

        /** Shorter ones first: a state looks at its back's links, which must stand by then. */
        private void link() {
            int queued = 1;
            queue[0] = START;
            for (int head = 0; head < queued && head < states; head++) {
                int state = queue[head];
                for (int letter = 0; letter < MOST_LETTERS; letter++) {
                    int place = state * MOST_LETTERS + letter;
                    int fallback = state == START ? START : after(back[state], letter);
                    int child = next[place];
                    if (child == START) {
                        next[place] = fallback;
                    } else {
                        adopt(child, fallback);
                        queue[queued] = child;
                        queued++;
                    }
                }
            }
        }

        private void adopt(int child, int fallback) {
            back[child] = fallback;
            if (ending[child] == NONE) {
                ending[child] = ending[fallback];
            }
        }
    }

    /** Reduces words. */
    private static final class Reducer {
        // Reducing always ends, but some rules count down like a clock of forty digits: no call may
        // take that long. What is not reduced by then stays as it is.
        static final int MOST_TURNS = 100_000_000;

        final Rules rules;
        final Matcher matcher;
        final byte[] unread = new byte[LONGEST];
        final int[] path = new int[LONGEST + 1];
        int unreadLength;
        int turns = MOST_TURNS;

        Reducer(Rules rules, Matcher matcher) {
            this.rules = rules;
            this.matcher = matcher;
        }

        /** Every call of the face has all turns for itself. */
        void rest() {
            turns = MOST_TURNS;
        }

        /**
         * The word holds what is read and free of left words. Looking it through anew would find
         * nothing there, so reading goes on where the right word was put.
         */
        void lessen(Word word) {
            matcher.keepUp();
            unreadLength = 0;
            putBack(word);
            word.clear();
            path[0] = Matcher.START;
            for (; turns > 0 && unreadLength > 0; turns--) {
                unreadLength--;
                int letter = unread[unreadLength];
                int state = matcher.after(path[word.length], letter);
                int rule = matcher.ending[state];
                if (rule == NONE) {
                    word.push(letter);
                    path[word.length] = state;
                } else {
                    word.length -= rules.lefts[rule].length - 1;
                    putBack(rules.rights[rule]);
                }
            }
            for (; unreadLength > 0; unreadLength--) {
                word.push(unread[unreadLength - 1]);
            }
        }

        /** The letter to be read first lies on top. */
        private void putBack(Word word) {
            for (int i = word.length - 1; i >= 0; i--) {
                unread[unreadLength] = word.letters[i];
                unreadLength++;
            }
        }
    }

    /** Counts and numbers the words that no left word stands in. */
    private static final class Census {
        final Matcher matcher;
        // In row n, for each state: how many n letters can follow so that no left word stands there.
        long[] followers = new long[(LONGEST_NUMBERED + 1) * Matcher.FEW_STATES];
        long[] ways = new long[Matcher.FEW_STATES];
        int[] entries = new int[Matcher.FEW_STATES];
        int[] queue = new int[Matcher.FEW_STATES];
        int rows;
        int letters;
        int version;

        Census(Matcher matcher) {
            this.matcher = matcher;
        }

        /** Makes ready what is asked of words of up to n letters. */
        void keepUp(int letterNumber, int n) {
            matcher.keepUp();
            letters = letterNumber;
            if (version != matcher.version) {
                version = matcher.version;
                makeRoom(matcher.states);
                rows = 0;
            }
            for (; rows <= n; rows++) {
                fillRow();
            }
        }

        long ofLength(int n) {
            return followers[n * matcher.states + Matcher.START];
        }

        /** All words are walked at once; the walk comes back to a state just when they never end. */
        long ofAnyLength() {
            int reached = countEntries();
            if (entries[Matcher.START] > 0) {
                return NONE;
            }
            Arrays.fill(ways, 0, matcher.states, 0L);
            ways[Matcher.START] = 1;
            queue[0] = Matcher.START;
            int queued = 1;
            long sum = 0;
            for (int head = 0; head < queued && head < matcher.states; head++) {
                int state = queue[head];
                sum += ways[state];
                for (int letter = 0; letter < letters; letter++) {
                    int to = matcher.after(state, letter);
                    if (matcher.isFree(to)) {
                        ways[to] += ways[state];
                        entries[to]--;
                        if (entries[to] == 0) {
                            queue[queued] = to;
                            queued++;
                        }
                    }
                }
            }
            return queued == reached ? sum : NONE;
        }

        void spell(Word word, int n, long number) {
            word.clear();
            int state = Matcher.START;
            long left = number;
            for (int more = n - 1; more >= 0; more--) {
                int letter = 0;
                long here = following(more, matcher.after(state, letter));
                while (letter < letters - 1 && left >= here) {
                    left -= here;
                    letter++;
                    here = following(more, matcher.after(state, letter));
                }
                word.push(letter);
                state = matcher.after(state, letter);
            }
        }

        long lesserOfItsLength(Word word) {
            int state = Matcher.START;
            long sum = 0;
            for (int i = 0; i < word.length; i++) {
                for (int letter = 0; letter < word.letters[i]; letter++) {
                    sum += following(word.length - 1 - i, matcher.after(state, letter));
                }
                state = matcher.after(state, word.letters[i]);
            }
            return sum;
        }

        private long following(int n, int state) {
            return followers[n * matcher.states + state];
        }

        private void makeRoom(int needed) {
            if (needed > ways.length) {
                followers = new long[(LONGEST_NUMBERED + 1) * Matcher.MOST_STATES];
                ways = new long[Matcher.MOST_STATES];
                entries = new int[Matcher.MOST_STATES];
                queue = new int[Matcher.MOST_STATES];
            }
        }

        private void fillRow() {
            int states = matcher.states;
            for (int state = 0; state < states; state++) {
                followers[rows * states + state] = matcher.isFree(state) ? followersOf(state) : 0;
            }
        }

        private long followersOf(int state) {
            if (rows == 0) {
                return 1;
            }
            long sum = 0;
            for (int letter = 0; letter < letters; letter++) {
                sum += following(rows - 1, matcher.after(state, letter));
            }
            return sum;
        }

        /** For each state that a word leads to: by how many letters of such states; answers how many they are. */
        private int countEntries() {
            Arrays.fill(entries, 0, matcher.states, NONE);
            entries[Matcher.START] = 0;
            queue[0] = Matcher.START;
            int queued = 1;
            for (int head = 0; head < queued && head < matcher.states; head++) {
                for (int letter = 0; letter < letters; letter++) {
                    int to = matcher.after(queue[head], letter);
                    if (matcher.isFree(to)) {
                        if (entries[to] == NONE) {
                            entries[to] = 0;
                            queue[queued] = to;
                            queued++;
                        }
                        entries[to]++;
                    }
                }
            }
            return queued;
        }
    }
}
