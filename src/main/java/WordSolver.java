import java.util.Arrays;

/**
 * A solver for words: which words are the same by some equations is found out by rules that make
 * words lesser, made of the equations step by step until none is missing; then each word has one
 * least word, these are counted, numbered, multiplied.
 */
public final class WordSolver {
    public static final int NONE = -1;

    private static final int MOST_LETTERS = 6;
    private static final int LONGEST = 40;
    private static final int MOST_RULES = 64;
    private static final int MOST_WAITING = 1000;
    private static final int MOST_STEPS = 500;
    private static final int LONGEST_NUMBERED = 20;
    private static final int MOST_TIMES = 200;

    private static final int EQUATIONS_WAIT = 0;
    private static final int COMPLETE = 1;
    private static final int STOPPED_BY_WORD = 2;
    private static final int STOPPED_BY_RULE = 3;
    private static final int STOPPED_BY_EQUATION = 4;
    private static final int NOT_STOPPED = 0;

    private final Word a = new Word();
    private final Word b = new Word();
    // Rows to work in, so that no call makes any.
    private final Word one = new Word();
    private final Word other = new Word();
    private final Word front = new Word();
    private final Word behind = new Word();

    private final Rules rules = new Rules();
    private final Waiting waiting = new Waiting();
    private final Matcher matcher = new Matcher(rules);
    private final Reducer reducer = new Reducer(rules, matcher);
    private final Census census = new Census(matcher);

    private int letters = 1;
    private int stopped = NOT_STOPPED;
    private int steps;
    private int rulesGone;

    public WordSolver() {
    }

    public int begin(int n) throws IllegalArgumentException {
        if (n < 1 || n > MOST_LETTERS) {
            throw new IllegalArgumentException("letters are 1 to 6");
        }
        int before = rules.number;
        letters = n;
        a.clear();
        b.clear();
        rules.clear();
        waiting.clear();
        stopped = NOT_STOPPED;
        steps = 0;
        rulesGone = 0;
        return before;
    }

    public int letter(int which, int letter) throws IllegalArgumentException {
        if (!isTold(which) || !isLetter(letter)) {
            throw new IllegalArgumentException("no such word or letter");
        }
        Word word = told(which);
        return word.push(letter) ? word.length : NONE;
    }

    public int erase(int which) throws IllegalArgumentException {
        if (!isTold(which)) {
            throw new IllegalArgumentException("no such word");
        }
        Word word = told(which);
        int before = word.length;
        word.clear();
        return before;
    }

    public int equation() throws IllegalStateException {
        if (stopped != NOT_STOPPED) {
            throw new IllegalStateException("stopped");
        }
        if (!waiting.hasRoom(1)) {
            return NONE;
        }
        waiting.add(a, b);
        a.clear();
        b.clear();
        return waiting.number;
    }

    public int inverse(int a, int b) throws IllegalStateException, IllegalArgumentException {
        if (stopped != NOT_STOPPED) {
            throw new IllegalStateException("stopped");
        }
        if (!isLetter(a) || !isLetter(b)) {
            throw new IllegalArgumentException("no such letter");
        }
        if (!waiting.hasRoom(2)) {
            return NONE;
        }
        addUndoing(a, b);
        addUndoing(b, a);
        return waiting.number;
    }

    public int run(int n) throws IllegalArgumentException {
        if (n < 0 || n > MOST_STEPS) {
            throw new IllegalArgumentException("steps are 0 to 500");
        }
        for (int i = 0; i < n && state() == EQUATIONS_WAIT; i++) {
            step();
        }
        return state();
    }

    public int reduce(int which) throws IllegalArgumentException {
        if (!isTold(which)) {
            throw new IllegalArgumentException("no such word");
        }
        Word word = told(which);
        reducer.lessen(word);
        return word.length;
    }

    public int same() {
        one.copy(a);
        other.copy(b);
        reducer.lessen(one);
        reducer.lessen(other);
        if (one.isLike(other)) {
            return 1;
        }
        return state() == COMPLETE ? 0 : NONE;
    }

    public int at(int what, int i) {
        if (what < 0) {
            return NONE;
        }
        if (isTold(what)) {
            return told(what).letterAt(i);
        }
        int rule = what / 2 - 1;
        if (rule >= rules.number) {
            return NONE;
        }
        Word word = what % 2 == 0 ? rules.lefts[rule] : rules.rights[rule];
        return word.letterAt(i);
    }

    public long words(int n) throws IllegalArgumentException {
        if (n < 0 || n > LONGEST_NUMBERED) {
            throw new IllegalArgumentException("lengths are 0 to 20");
        }
        census.keepUp(letters, n);
        return census.ofLength(n);
    }

    public long size() {
        census.keepUp(letters, 0);
        return census.ofAnyLength();
    }

    public int find(long k) {
        if (k < 0) {
            return NONE;
        }
        long left = k;
        for (int n = 0; n <= LONGEST_NUMBERED; n++) {
            census.keepUp(letters, n);
            long here = census.ofLength(n);
            if (left < here) {
                census.spell(a, n, left);
                return n;
            }
            left -= here;
        }
        return NONE;
    }

    public long index() {
        one.copy(a);
        reducer.lessen(one);
        if (one.length > LONGEST_NUMBERED) {
            return NONE;
        }
        census.keepUp(letters, one.length);
        long number = census.lesserOfItsLength(one);
        for (int n = 0; n < one.length; n++) {
            number += census.ofLength(n);
        }
        return number;
    }

    public int order() {
        one.clear();
        for (int n = 1; n <= MOST_TIMES; n++) {
            if (one.length + a.length > LONGEST) {
                return NONE;
            }
            one.add(a, 0, a.length);
            reducer.lessen(one);
            if (one.length == 0) {
                return n;
            }
        }
        return NONE;
    }

    public int count(int what) {
        switch (what) {
            case 0:
                return letters;
            case 1:
                return rules.number;
            case 2:
                return waiting.number;
            case 3:
                return steps;
            case 4:
                return state();
            case 5:
                return a.length;
            case 6:
                return b.length;
            case 7:
                return rules.longestLeft();
            case 8:
                return rulesGone;
            default:
                return NONE;
        }
    }

    private static boolean isTold(int which) {
        return which == 0 || which == 1;
    }

    private Word told(int which) {
        return which == 0 ? a : b;
    }

    private boolean isLetter(int letter) {
        return letter >= 0 && letter < letters;
    }

    private int state() {
        if (stopped != NOT_STOPPED) {
            return stopped;
        }
        return waiting.number > 0 ? EQUATIONS_WAIT : COMPLETE;
    }

    private void addUndoing(int letter, int undoing) {
        front.clear();
        behind.clear();
        front.push(letter);
        front.push(undoing);
        waiting.add(front, behind);
    }

    private void step() {
        steps++;
        waiting.take(one, other);
        reducer.lessen(one);
        reducer.lessen(other);
        if (one.isLike(other)) {
            return;
        }
        if (rules.number >= MOST_RULES) {
            stopped = STOPPED_BY_RULE;
            return;
        }
        if (one.isLesserThan(other)) {
            rules.add(other, one);
        } else {
            rules.add(one, other);
        }
        putOutOthers();
        if (stopped == NOT_STOPPED) {
            lessenRights();
            meetAll();
        }
    }

    private void putOutOthers() {
        int others = rules.number - 1;
        Word newest = rules.lefts[others];
        int k = 0;
        for (int seen = 0; seen < others; seen++) {
            if (!rules.lefts[k].holds(newest)) {
                k++;
            } else if (waiting.hasRoom(1)) {
                waiting.add(rules.lefts[k], rules.rights[k]);
                rules.remove(k);
                rulesGone++;
            } else {
                stopped = STOPPED_BY_EQUATION;
                return;
            }
        }
    }

    private void lessenRights() {
        for (int k = 0; k < rules.number - 1; k++) {
            reducer.lessen(rules.rights[k]);
        }
    }

    private void meetAll() {
        int newest = rules.number - 1;
        for (int k = 0; k <= newest; k++) {
            meet(newest, k);
            if (k != newest) {
                meet(k, newest);
            }
        }
    }

    /** Once it is stopped nothing more may wait, so this does nothing then. */
    private void meet(int first, int second) {
        Word l = rules.lefts[first];
        Word m = rules.lefts[second];
        int end = Math.min(l.length, m.length);
        for (int k = 1; k < end && stopped == NOT_STOPPED; k++) {
            if (l.endsAsBegins(m, k)) {
                addMeeting(first, second, k);
            }
        }
    }

    private void addMeeting(int first, int second, int k) {
        Word l = rules.lefts[first];
        Word r = rules.rights[first];
        Word m = rules.lefts[second];
        Word s = rules.rights[second];
        if (r.length + m.length - k > LONGEST || l.length - k + s.length > LONGEST) {
            stopped = STOPPED_BY_WORD;
        } else if (!waiting.hasRoom(1)) {
            stopped = STOPPED_BY_EQUATION;
        } else {
            front.copy(r);
            front.add(m, k, m.length);
            behind.clear();
            behind.add(l, 0, l.length - k);
            behind.add(s, 0, s.length);
            waiting.add(front, behind);
        }
    }

    /** A row of at most 40 letters. */
    private static final class Word {
        static final int PACKED = 20;

        final byte[] letters = new byte[LONGEST];
        int length;

        void clear() {
            length = 0;
        }

        boolean push(int letter) {
            if (length >= LONGEST) {
                return false;
            }
            letters[length] = (byte) letter;
            length++;
            return true;
        }

        int letterAt(int i) {
            return i >= 0 && i < length ? letters[i] : NONE;
        }

        void copy(Word from) {
            System.arraycopy(from.letters, 0, letters, 0, from.length);
            length = from.length;
        }

        /** The letters from begin on, up to end, come behind; nothing when they find no room. */
        void add(Word from, int begin, int end) {
            int more = end - begin;
            if (more > 0 && length + more <= LONGEST) {
                System.arraycopy(from.letters, begin, letters, length, more);
                length += more;
            }
        }

        boolean isLike(Word word) {
            return length == word.length && differsAt(word) == length;
        }

        boolean isLesserThan(Word word) {
            if (length != word.length) {
                return length < word.length;
            }
            int i = differsAt(word);
            return i < length && letters[i] < word.letters[i];
        }

        /** For words of one length. */
        int differsAt(Word word) {
            int i = 0;
            while (i < length && letters[i] == word.letters[i]) {
                i++;
            }
            return i;
        }

        boolean holds(Word part) {
            for (int from = 0; from + part.length <= length; from++) {
                if (agrees(from, part, part.length)) {
                    return true;
                }
            }
            return false;
        }

        boolean endsAsBegins(Word next, int k) {
            return agrees(length - k, next, k);
        }

        private boolean agrees(int from, Word begin, int k) {
            for (int i = 0; i < k; i++) {
                if (letters[from + i] != begin.letters[i]) {
                    return false;
                }
            }
            return true;
        }

        /** A letter is kept as one more than it is, so that 0 tells the end. */
        long packed(int from) {
            int end = from + PACKED < length ? from + PACKED : length;
            long bits = 0;
            for (int i = end - 1; i >= from; i--) {
                bits = bits << 3 | letters[i] + 1;
            }
            return bits;
        }

        void pushPacked(long packed) {
            for (long bits = packed; bits != 0; bits >>>= 3) {
                push((int) (bits & 7) - 1);
            }
        }
    }

    /** The row of rules, the oldest first. */
    private static final class Rules {
        final Word[] lefts = new Word[MOST_RULES];
        final Word[] rights = new Word[MOST_RULES];
        int number;
        // Tells those who look at the left words that these have changed.
        int version = 1;

        Rules() {
            for (int k = 0; k < MOST_RULES; k++) {
                lefts[k] = new Word();
                rights[k] = new Word();
            }
        }

        void clear() {
            number = 0;
            version++;
        }

        void add(Word left, Word right) {
            if (number < MOST_RULES) {
                lefts[number].copy(left);
                rights[number].copy(right);
                number++;
                version++;
            }
        }

        /** The two words go behind the row, where they are used again. */
        void remove(int rule) {
            Word left = lefts[rule];
            Word right = rights[rule];
            for (int k = rule; k + 1 < number; k++) {
                lefts[k] = lefts[k + 1];
                rights[k] = rights[k + 1];
            }
            number--;
            lefts[number] = left;
            rights[number] = right;
            version++;
        }

        int longestLeft() {
            int longest = 0;
            for (int k = 0; k < number; k++) {
                longest = Math.max(longest, lefts[k].length);
            }
            return longest;
        }

        int lettersOfLefts() {
            int sum = 0;
            for (int k = 0; k < number; k++) {
                sum += lefts[k].length;
            }
            return sum;
        }
    }

    /** The equations that wait, in a ring; packed, as rows of letters would take twenty times the elements. */
    private static final class Waiting {
        static final int PARTS = 4;

        final long[] ring = new long[MOST_WAITING * PARTS];
        int first;
        int number;

        void clear() {
            first = 0;
            number = 0;
        }

        boolean hasRoom(int more) {
            return number + more <= MOST_WAITING;
        }

        void add(Word one, Word other) {
            if (hasRoom(1)) {
                int place = (first + number) % MOST_WAITING * PARTS;
                ring[place] = one.packed(0);
                ring[place + 1] = one.packed(Word.PACKED);
                ring[place + 2] = other.packed(0);
                ring[place + 3] = other.packed(Word.PACKED);
                number++;
            }
        }

        void take(Word one, Word other) {
            one.clear();
            other.clear();
            if (number > 0) {
                int place = first * PARTS;
                one.pushPacked(ring[place]);
                one.pushPacked(ring[place + 1]);
                other.pushPacked(ring[place + 2]);
                other.pushPacked(ring[place + 3]);
                first = (first + 1) % MOST_WAITING;
                number--;
            }
        }
    }

    /**
     * Reads a word letter by letter; its state is the longest end of what it has read that begins a
     * left word.
     */
    private static final class Matcher {
        static final int START = 0;
        static final int MOST_STATES = 1 + MOST_RULES * LONGEST;

        final Rules rules;
        final int[] next = new int[MOST_STATES * MOST_LETTERS];
        // The state of the longest lesser end.
        final int[] back = new int[MOST_STATES];
        // The rule with the longest left word that ends here.
        final int[] ending = new int[MOST_STATES];
        final int[] queue = new int[MOST_STATES];
        int states;
        int version;

        Matcher(Rules rules) {
            this.rules = rules;
        }

        void keepUp() {
            if (version == rules.version) {
                return;
            }
            version = rules.version;
            wipe(1 + rules.lettersOfLefts());
            states = 1;
            for (int k = 0; k < rules.number; k++) {
                plant(rules.lefts[k], k);
            }
            link();
        }

        int after(int state, int letter) {
            return next[state * MOST_LETTERS + letter];
        }

        boolean isFree(int state) {
            return ending[state] == NONE;
        }

        /** Only what will be used, as most left words are few and short. */
        private void wipe(int needed) {
            Arrays.fill(next, 0, needed * MOST_LETTERS, START);
            Arrays.fill(back, 0, needed, START);
            Arrays.fill(ending, 0, needed, NONE);
        }

        /** Until the states are linked, START as the next one means that there is none. */
        private void plant(Word left, int rule) {
            int state = START;
            for (int i = 0; i < left.length; i++) {
                int place = state * MOST_LETTERS + left.letters[i];
                if (next[place] == START) {
                    next[place] = states;
                    states++;
                }
                state = next[place];
            }
            if (ending[state] == NONE) {
                ending[state] = rule;
            }
        }

        /** Shorter ones first: a state looks at its back's links, which must stand by then. */
        private void link() {
            int queued = 1;
            queue[0] = START;
            for (int head = 0; head < queued && head < states; head++) {
                int state = queue[head];
                for (int letter = 0; letter < MOST_LETTERS; letter++) {
                    int place = state * MOST_LETTERS + letter;
                    int fallback = state == START ? START : after(back[state], letter);
                    int child = next[place];
                    if (child == START) {
                        next[place] = fallback;
                    } else {
                        adopt(child, fallback);
                        queue[queued] = child;
                        queued++;
                    }
                }
            }
        }

        private void adopt(int child, int fallback) {
            back[child] = fallback;
            if (ending[child] == NONE) {
                ending[child] = ending[fallback];
            }
        }
    }

    /**
     * What reading on came to, from a state and an unread rest. Places are few: what finds none takes
     * another's, and that is found out anew when it is needed.
     */
    private static final class Memory {
        static final int PLACE_BITS = 10;
        static final int PLACES = 1 << PLACE_BITS;
        static final int TRIES = 8;
        // Odd, and without a pattern in its bits: it spreads the questions over the places.
        static final long SPREAD = 0x9E3779B97F4A7C15L;

        final int[] states = new int[PLACES];
        final long[] nears = new long[PLACES];
        final long[] fars = new long[PLACES];
        final int[] taken = new int[PLACES];
        final long[] nearsAfter = new long[PLACES];
        final long[] farsAfter = new long[PLACES];
        // A place is in use when it was filled in this age.
        final long[] ages = new long[PLACES];
        long age = 1;
        int lastTry;

        void forget() {
            age++;
        }

        int placeOf(int state, long near, long far) {
            int home = home(state, near, far);
            for (int i = 0; i < TRIES; i++) {
                int place = (home + i) % PLACES;
                if (ages[place] == age && states[place] == state && nears[place] == near && fars[place] == far) {
                    return place;
                }
            }
            return NONE;
        }

        void add(int state, long near, long far, int lettersTaken, long nearAfter, long farAfter) {
            if (placeOf(state, near, far) == NONE) {
                int place = roomNear(home(state, near, far));
                ages[place] = age;
                states[place] = state;
                nears[place] = near;
                fars[place] = far;
                taken[place] = lettersTaken;
                nearsAfter[place] = nearAfter;
                farsAfter[place] = farAfter;
            }
        }

        private int home(int state, long near, long far) {
            long mixed = ((near * SPREAD ^ far) * SPREAD ^ state) * SPREAD;
            return (int) (mixed >>> 64 - PLACE_BITS);
        }

        private int roomNear(int home) {
            for (int i = 0; i < TRIES; i++) {
                int place = (home + i) % PLACES;
                if (ages[place] != age) {
                    return place;
                }
            }
            lastTry = (lastTry + 1) % TRIES;
            return (home + lastTry) % PLACES;
        }
    }

    /** Reduces words. */
    private static final class Reducer {
        // Reducing ends because each replacement makes the word lesser, and there are less than 2^104
        // words of at most 40 letters; between two replacements at most 40 letters are read. So a
        // word has less than 2^110 turns, and rounds of turns may be 2^120.
        static final long MOST_ROUNDS = 1L << 60;
        static final long TURNS_OF_A_ROUND = 1L << 60;
        // Nearly every word is reduced by then; it pays to remember for the others alone.
        static final int FEW_TURNS = 1000;
        static final int TOP_PLACE = 3 * (Word.PACKED - 1);
        static final long ALL_PLACES = (1L << 3 * Word.PACKED) - 1;

        final Rules rules;
        final Matcher matcher;
        final Memory memory = new Memory();
        // For each length of what is read: the matcher's state, and what was unread when it came to it.
        final int[] path = new int[LONGEST + 1];
        final long[] nearThen = new long[LONGEST + 1];
        final long[] farThen = new long[LONGEST + 1];
        // What is unread, packed as in Word, the letter to be read first in the lowest place: the
        // first letters are near, those that find no place there far.
        long near;
        long far;

        Reducer(Rules rules, Matcher matcher) {
            this.rules = rules;
            this.matcher = matcher;
        }

        /**
         * The word holds what is read and free of left words. Looking it through anew would find
         * nothing there, so reading goes on where the right word was put.
         */
        void lessen(Word word) {
            matcher.keepUp();
            near = word.packed(0);
            far = word.packed(Word.PACKED);
            word.clear();
            path[0] = Matcher.START;
            for (int turn = 0; turn < FEW_TURNS && near != 0; turn++) {
                read(word);
            }
            memory.forget();
            for (long round = 0; round < MOST_ROUNDS && near != 0; round++) {
                for (long turn = 0; turn < TURNS_OF_A_ROUND && near != 0; turn++) {
                    readAndRemember(word);
                }
            }
        }

        private void read(Word word) {
            int letter = takeLetter();
            int state = matcher.after(path[word.length], letter);
            int rule = matcher.ending[state];
            if (rule == NONE) {
                word.push(letter);
                path[word.length] = state;
                nearThen[word.length] = near;
                farThen[word.length] = far;
            } else {
                word.length -= rules.lefts[rule].length - 1;
                putBack(rules.rights[rule]);
            }
        }

        /**
         * From a state and what is unread then, it is certain how it goes on until letters that were
         * read before are taken away: how many of them, and what is unread thereafter. Rules that
         * count down come to the same state and rest again and again.
         */
        private void readAndRemember(Word word) {
            int longest = word.length;
            read(word);
            if (word.length > longest) {
                longest = word.length;
                recall(word);
            }
            for (int length = longest; length > word.length; length--) {
                memory.add(path[length], nearThen[length], farThen[length], length - word.length, near, far);
            }
        }

        private void recall(Word word) {
            int place = memory.placeOf(path[word.length], near, far);
            if (place != NONE) {
                word.length -= memory.taken[place];
                near = memory.nearsAfter[place];
                far = memory.farsAfter[place];
            }
        }

        private int takeLetter() {
            int letter = (int) (near & 7) - 1;
            near = near >>> 3 | (far & 7) << TOP_PLACE;
            far >>>= 3;
            return letter;
        }

        private void putBack(Word word) {
            for (int i = word.length - 1; i >= 0; i--) {
                far = far << 3 | near >>> TOP_PLACE;
                near = (near << 3 | word.letters[i] + 1) & ALL_PLACES;
            }
        }
    }

    /** Counts and numbers the words that no left word stands in. */
    private static final class Census {
        final Matcher matcher;
        // In row n, for each state: how many n letters can follow so that no left word stands there.
        final long[] followers = new long[(LONGEST_NUMBERED + 1) * Matcher.MOST_STATES];
        final long[] ways = new long[Matcher.MOST_STATES];
        final int[] entries = new int[Matcher.MOST_STATES];
        final int[] queue = new int[Matcher.MOST_STATES];
        int rows;
        int letters;
        int version;

        Census(Matcher matcher) {
            this.matcher = matcher;
        }

        /** Makes ready what is asked of words of up to n letters. */
        void keepUp(int letterNumber, int n) {
            matcher.keepUp();
            letters = letterNumber;
            if (version != matcher.version) {
                version = matcher.version;
                rows = 0;
            }
            for (; rows <= n; rows++) {
                fillRow();
            }
        }

        long ofLength(int n) {
            return followers[n * matcher.states + Matcher.START];
        }

        /** All words are walked at once; the walk comes back to a state just when they never end. */
        long ofAnyLength() {
            int reached = countEntries();
            if (entries[Matcher.START] > 0) {
                return NONE;
            }
            Arrays.fill(ways, 0, matcher.states, 0L);
            ways[Matcher.START] = 1;
            queue[0] = Matcher.START;
            int queued = 1;
            long sum = 0;
            for (int head = 0; head < queued && head < matcher.states; head++) {
                int state = queue[head];
                sum += ways[state];
                for (int letter = 0; letter < letters; letter++) {
                    int to = matcher.after(state, letter);
                    if (matcher.isFree(to)) {
                        ways[to] += ways[state];
                        entries[to]--;
                        if (entries[to] == 0) {
                            queue[queued] = to;
                            queued++;
                        }
                    }
                }
            }
            return queued == reached ? sum : NONE;
        }

        void spell(Word word, int n, long number) {
            word.clear();
            int state = Matcher.START;
            long left = number;
            for (int more = n - 1; more >= 0; more--) {
                int letter = 0;
                long here = following(more, matcher.after(state, letter));
                while (letter < letters - 1 && left >= here) {
                    left -= here;
                    letter++;
                    here = following(more, matcher.after(state, letter));
                }
                word.push(letter);
                state = matcher.after(state, letter);
            }
        }

        long lesserOfItsLength(Word word) {
            int state = Matcher.START;
            long sum = 0;
            for (int i = 0; i < word.length; i++) {
                for (int letter = 0; letter < word.letters[i]; letter++) {
                    sum += following(word.length - 1 - i, matcher.after(state, letter));
                }
                state = matcher.after(state, word.letters[i]);
            }
            return sum;
        }

        private long following(int n, int state) {
            return followers[n * matcher.states + state];
        }

        private void fillRow() {
            int states = matcher.states;
            for (int state = 0; state < states; state++) {
                followers[rows * states + state] = matcher.isFree(state) ? followersOf(state) : 0;
            }
        }

        private long followersOf(int state) {
            if (rows == 0) {
                return 1;
            }
            long sum = 0;
            for (int letter = 0; letter < letters; letter++) {
                sum += following(rows - 1, matcher.after(state, letter));
            }
            return sum;
        }

        /** For each state that a word leads to: by how many letters of such states; answers how many they are. */
        private int countEntries() {
            Arrays.fill(entries, 0, matcher.states, NONE);
            entries[Matcher.START] = 0;
            queue[0] = Matcher.START;
            int queued = 1;
            for (int head = 0; head < queued && head < matcher.states; head++) {
                for (int letter = 0; letter < letters; letter++) {
                    int to = matcher.after(queue[head], letter);
                    if (matcher.isFree(to)) {
                        if (entries[to] == NONE) {
                            entries[to] = 0;
                            queue[queued] = to;
                            queued++;
                        }
                        entries[to]++;
                    }
                }
            }
            return queued;
        }
    }
}
