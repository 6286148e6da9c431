/**
 * A bridge that stands as long as those sleep who are paid to hold it.
 *
 * <p>The face only looks at its arguments and hands on: {@link Reader} makes a {@link Text} of the
 * tape, {@link Night} is all that goes on, {@link Rules} says what is borne and what an hour does,
 * {@link Plans} looks for the best of what would be, {@link Rumours} keeps what was told.
 */
public final class SleepBridge {
    public static final int NONE = -1;

    private static final int NOT_AT_ALL = -2;
    /** For answers that may be below 0 themselves. */
    private static final int NO_SUCH = -100;

    private static final int MOST_SPANS = 5;
    private static final int MOST_SLEEPERS = 6;
    private static final int MOST_PAIRS = 6;
    private static final int MOST_CROSSERS = 5;
    private static final int MOST_HOURS = 24;
    private static final int MOST_AHEAD = 99;
    private static final int MOST_SEEDS = 20;
    private static final int MOST_UNDONE = 40;
    private static final int SLOTS = 3;

    private static final int HOME = -2;
    private static final int SENT = -3;
    private static final int OVER = 9;
    private static final int FALLEN = 10;

    private static final int HOLDS = 0;
    private static final int WAKES = 1;
    private static final int DEEPENS = 2;

    private Text text = new Text();
    /** A text that is being read: it comes in place of the other one only if it has no fault. */
    private Text spare = new Text();
    private final Reader reader = new Reader();
    private final Rules rules = new Rules(text);
    private final Plans plans = new Plans(rules);
    private final Rumours rumours = new Rumours(rules);
    private final Night now = new Night();
    private final Night ghost = new Night();
    private final Shelf past = new Shelf(MOST_UNDONE);
    private final Shelf slots = new Shelf(SLOTS);
    private int undoable;
    private int nextPast;
    private int filledSlots;

    public SleepBridge() {
        beginText();
    }

    public int feed(int a, int b, int c, int d, int e) {
        if (!reader.hasRoom()) {
            return NONE;
        }
        reader.addFour(a);
        reader.addFour(b);
        reader.addFour(c);
        reader.addFour(d);
        reader.addFour(e);
        return reader.length;
    }

    public int back(int n) {
        if (n < 0 || n > reader.length) {
            return NONE;
        }
        reader.length -= n;
        return reader.length;
    }

    public int read() {
        int fault = reader.parse(spare);
        reader.length = 0;
        if (fault == 0) {
            Text fresh = spare;
            spare = text;
            text = fresh;
            beginText();
        }
        return fault;
    }

    public int place() {
        return reader.place;
    }

    public int sleeper(int sleeper, int what) {
        if (!isSleeper(sleeper)) {
            return NONE;
        }
        switch (what) {
            case 0:
                return now.depth[sleeper];
            case 1:
                return text.weight[sleeper];
            case 2:
                return text.wage[sleeper];
            case 3:
                return now.lies[sleeper];
            case 4:
                return now.asleep >> sleeper & 1;
            case 5:
                return rules.held(now, sleeper);
            default:
                return NONE;
        }
    }

    public int crosser(int crosser, int what) {
        if (!isCrosser(crosser)) {
            return NONE;
        }
        switch (what) {
            case 0:
                return text.load[crosser];
            case 1:
                return text.noise[crosser];
            case 2:
                return text.toll[crosser];
            case 3:
                return now.where[crosser];
            case 4:
                return now.overs[crosser];
            default:
                return NONE;
        }
    }

    public int span(int span, int what) {
        if (!isSpan(span)) {
            return NONE;
        }
        switch (what) {
            case 0:
                return rules.borne(now, span);
            case 1:
                return rules.loadOn(now, span);
            case 2:
                return rules.lyingOn(now, span);
            case 3:
                return rules.crossersAt(now, span);
            default:
                return NONE;
        }
    }

    public int tells(int sleeper, int what) {
        if (!isSleeper(sleeper) || (now.asleep >> sleeper & 1) == 0) {
            return NO_SUCH;
        }
        switch (what) {
            case 0:
                return rules.wakingOf(now, sleeper);
            case 1:
                return rules.deepeningOf(now, sleeper);
            default:
                return NO_SUCH;
        }
    }

    public int dreams(int span) {
        return isSpan(span) ? rules.pairsIn(now.asleepOn(span)) : NONE;
    }

    public boolean send(int crosser) {
        if (!isCrosser(crosser) || now.where[crosser] != HOME) {
            return false;
        }
        remember();
        now.where[crosser] = SENT;
        return true;
    }

    public boolean lay(int sleeper, int span) {
        if (!isSleeper(sleeper) || !isSpan(span) || now.lies[sleeper] == span) {
            return false;
        }
        remember();
        now.lies[sleeper] = span;
        return true;
    }

    public int lull(int sleeper) {
        if (!isSleeper(sleeper)) {
            return NONE;
        }
        if ((now.asleep >> sleeper & 1) == 1 || now.hour >= text.dawn) {
            return NOT_AT_ALL;
        }
        remember();
        now.asleep |= 1 << sleeper;
        now.depth[sleeper] = Math.max(0, now.depth[sleeper] - 9);
        return now.depth[sleeper];
    }

    public int hours(int n) {
        if (n < 0 || n > MOST_HOURS) {
            return NONE;
        }
        if (n > 0) {
            remember();
            rules.passHours(now, n, false, text.seed);
        }
        return now.hour;
    }

    public int night() {
        remember();
        now.beginNext(text);
        return now.nights;
    }

    public boolean undo() {
        if (undoable == 0) {
            return false;
        }
        undoable--;
        nextPast = (nextPast + MOST_UNDONE - 1) % MOST_UNDONE;
        past.fetch(nextPast, now);
        return true;
    }

    public int then(int n, boolean quiet, int what, int which) {
        if (n < 0 || n > MOST_AHEAD || what == 0 && !isCrosser(which) || what == 1 && !isSpan(which)) {
            return NO_SUCH;
        }
        ghost.copy(now);
        rules.passHours(ghost, n, quiet, text.seed);
        switch (what) {
            case 0:
                return ghost.where[which];
            case 1:
                return rules.borne(ghost, which);
            case 2:
                return Integer.bitCount(ghost.asleep);
            case 3:
                return ghost.tolls - now.tolls;
            case 4:
                return Integer.bitCount(rules.crossersAt(ghost, FALLEN));
            case 5:
                return rules.leastBorne(ghost);
            default:
                return NO_SUCH;
        }
    }

    public int weakest(int sleeper) {
        if (sleeper != NONE && !isSleeper(sleeper)) {
            return NONE;
        }
        int most = plans.findRows(now);
        return sleeper == NONE ? most : plans.bestRow[sleeper];
    }

    public int better(int what) {
        if (what < 0 || what > 2) {
            return NONE;
        }
        if (!plans.findMove(now)) {
            return NOT_AT_ALL;
        }
        return what == 0 ? plans.bestOne : what == 1 ? plans.bestSpan : plans.bestLeast;
    }

    public int cheap(int load, int what) {
        if (load < 0 || load > 999 || what < 0 || what > 1) {
            return NONE;
        }
        if (!plans.findCheapest(now, load)) {
            return NOT_AT_ALL;
        }
        return what == 0 ? plans.bestWages : plans.bestOne;
    }

    public int order(int i) {
        if (i < NONE || i >= Integer.bitCount(rules.crossersAt(now, HOME))) {
            return NONE;
        }
        int toll = plans.findOrder(now);
        return i == NONE ? toll : plans.bestOrder[i];
    }

    public int soon(int crosser) {
        if (!isCrosser(crosser)) {
            return NONE;
        }
        return now.where[crosser] == HOME ? plans.hoursUntilOver(now, crosser) : NOT_AT_ALL;
    }

    public int start(int crosser) {
        if (!isCrosser(crosser)) {
            return NONE;
        }
        return now.where[crosser] == HOME ? plans.latestStart(now, crosser) : NOT_AT_ALL;
    }

    public int missed(int what) {
        if (what < 0 || what > 1) {
            return NONE;
        }
        if (now.asleep == 0) {
            return NOT_AT_ALL;
        }
        plans.findMissed(now);
        return what == 0 ? plans.bestOne : plans.bestLeast;
    }

    public int year(int crosser, int n, int s) {
        if (!isCrosser(crosser) || n < 0 || n > MOST_AHEAD || s < 1 || s > MOST_SEEDS) {
            return NONE;
        }
        return plans.seedsOver(now, crosser, n, s);
    }

    public int tell(int span, int bears) {
        return isSpan(span) && bears >= 0 && bears <= 999 ? rumours.add(span, bears) : NONE;
    }

    public int forget() {
        int known = rumours.size;
        rumours.size = 0;
        return known;
    }

    public int awake(int k, int i) {
        if (k < 0 || k > rumours.size || i < NONE) {
            return NONE;
        }
        int sets = rumours.findSets(now, k);
        if (i == NONE) {
            return sets;
        }
        return i < sets ? rumours.sets[i] : NONE;
    }

    public int ask(int k) {
        if (k < 0 || k > rumours.size) {
            return NONE;
        }
        return rumours.findSets(now, k) == 0 ? NOT_AT_ALL : rumours.bestQuestion();
    }

    public boolean hold(int slot) {
        if (slot < 0 || slot >= SLOTS) {
            return false;
        }
        slots.store(slot, now);
        filledSlots |= 1 << slot;
        return true;
    }

    public boolean restore(int slot) {
        if (slot < 0 || slot >= SLOTS || (filledSlots >> slot & 1) == 0) {
            return false;
        }
        slots.fetch(slot, now);
        undoable = 0;
        return true;
    }

    public int count(int what) {
        switch (what) {
            case 0:
                return text.spans;
            case 1:
                return text.sleepers;
            case 2:
                return text.pairs;
            case 3:
                return text.crossers;
            case 4:
                return now.hour;
            case 5:
                return now.nights;
            case 6:
                return now.allHours;
            case 7:
                return now.tolls;
            case 8:
                return reader.length;
            case 9:
                return undoable;
            case 10:
                return rumours.size;
            case 11:
                return Integer.bitCount(filledSlots);
            default:
                return countBridge(what);
        }
    }

    private int countBridge(int what) {
        switch (what) {
            case 12:
                return now.asleep;
            case 13:
                return rules.crossersAt(now, FALLEN);
            case 14:
                return rules.noiseOf(now);
            case 15:
                return text.wagesOf((1 << text.sleepers) - 1);
            case 16:
                return rules.allDreams(now);
            case 17:
                return rules.leastBorne(now);
            case 18:
                return now.allOvers();
            default:
                return NONE;
        }
    }

    private boolean isSleeper(int sleeper) {
        return sleeper >= 0 && sleeper < text.sleepers;
    }

    private boolean isCrosser(int crosser) {
        return crosser >= 0 && crosser < text.crossers;
    }

    private boolean isSpan(int span) {
        return span >= 0 && span < text.spans;
    }

    private void beginText() {
        rules.text = text;
        now.beginFirst(text);
        undoable = 0;
        filledSlots = 0;
        rumours.size = 0;
    }

    /** To be called ahead of each thing done; the oldest of forty gives way. */
    private void remember() {
        past.store(nextPast, now);
        nextPast = (nextPast + 1) % MOST_UNDONE;
        undoable = Math.min(undoable + 1, MOST_UNDONE);
    }

    private static int within(int value, int least, int most) {
        return value < least ? least : value > most ? most : value;
    }

    /** The three laws as steps of a machine with a stack, the laws behind one another in one row. */
    private static final class Laws {
        static final int PUSH = 0;
        static final int LOOK = 1;
        static final int ADD = 2;
        static final int SUBTRACT = 3;
        static final int MULTIPLY = 4;
        static final int DIVIDE = 5;
        /** Goes on to a step further on unless the one below the top is less than the top. */
        static final int UNLESS_LESS = 6;
        static final int END = 7;

        /** No token makes more than one step; the laws that nobody told take four more. */
        private static final int MOST_STEPS = Reader.MOST_TOKENS + 4;
        /** Seven levels of brackets with two values waiting in each need fewer; a power of 2. */
        private static final int STACK = 32;

        private final int[] steps = new int[MOST_STEPS];
        private final int[] begins = new int[3];
        private final int[] stack = new int[STACK];
        private int size;

        void clear() {
            size = 0;
            begin(HOLDS);
            add(LOOK, 0);
            add(END, 0);
            begin(WAKES);
            begin(DEEPENS);
            add(PUSH, 0);
            add(END, 0);
        }

        void begin(int law) {
            begins[law] = size;
        }

        void add(int step, int of) {
            if (size < MOST_STEPS) {
                steps[size] = of << 3 | step;
                size++;
            }
        }

        /** Answers where the step is, for aim(). */
        int addTest() {
            add(UNLESS_LESS, 0);
            return size - 1;
        }

        void aim(int test) {
            steps[test] = size << 3 | UNLESS_LESS;
        }

        /** The stack's indices are masked, so that no row of steps can lead out of it. */
        int value(int law, int[] seen) {
            int top = 0;
            int next = begins[law];
            for (int done = 0; done < MOST_STEPS && next < size; done++) {
                int step = steps[next] & 7;
                int of = steps[next] >> 3;
                next++;
                if (step == END) {
                    return stack[(top - 1) & (STACK - 1)];
                }
                if (step == PUSH || step == LOOK) {
                    stack[top & (STACK - 1)] = step == PUSH ? of : seen[of & (Rules.SEEN - 1)];
                    top++;
                    continue;
                }
                int left = stack[(top - 2) & (STACK - 1)];
                int right = stack[(top - 1) & (STACK - 1)];
                if (step == UNLESS_LESS) {
                    top -= 2;
                    next = left < right ? next : of;
                    continue;
                }
                int joined;
                if (step == ADD) {
                    joined = left + right;
                } else if (step == SUBTRACT) {
                    joined = left - right;
                } else if (step == MULTIPLY) {
                    joined = left * right;
                } else if (right != 0) {
                    joined = left / right;
                } else {
                    return 0;
                }
                top--;
                stack[(top - 1) & (STACK - 1)] = joined;
            }
            return 0;
        }
    }

    /** What a text tells. */
    private static final class Text {
        int spans;
        int sleepers;
        int pairs;
        int crossers;
        int dawn;
        int bonus;
        int seed;
        final long[] sleeperNames = new long[MOST_SLEEPERS];
        final int[] depth = new int[MOST_SLEEPERS];
        final int[] weight = new int[MOST_SLEEPERS];
        final int[] wage = new int[MOST_SLEEPERS];
        final int[] lies = new int[MOST_SLEEPERS];
        /** Each pair as the bits of its two. */
        final int[] pairBits = new int[MOST_PAIRS];
        final long[] crosserNames = new long[MOST_CROSSERS];
        final int[] load = new int[MOST_CROSSERS];
        final int[] noise = new int[MOST_CROSSERS];
        final int[] toll = new int[MOST_CROSSERS];
        final Laws laws = new Laws();

        Text() {
            clear();
        }

        void clear() {
            spans = 3;
            sleepers = 0;
            pairs = 0;
            crossers = 0;
            dawn = 12;
            bonus = 5;
            seed = 0;
            laws.clear();
        }

        /** All but those that are awake (or thought so); the hour is as it is: from dawn on nobody sleeps. */
        int asleepAt(int hour, int awake) {
            return hour >= dawn ? 0 : (1 << sleepers) - 1 & ~awake;
        }

        int sleeperNamed(long name) {
            for (int s = 0; s < sleepers; s++) {
                if (sleeperNames[s] == name) {
                    return s;
                }
            }
            return NONE;
        }

        boolean isTaken(long name) {
            for (int c = 0; c < crossers; c++) {
                if (crosserNames[c] == name) {
                    return true;
                }
            }
            return sleeperNamed(name) != NONE;
        }

        boolean hasPair(int bits) {
            for (int p = 0; p < pairs; p++) {
                if (pairBits[p] == bits) {
                    return true;
                }
            }
            return false;
        }

        boolean someLieOutside() {
            for (int s = 0; s < sleepers; s++) {
                if (lies[s] >= spans) {
                    return true;
                }
            }
            return false;
        }

        int wagesOf(int set) {
            int sum = 0;
            for (int s = 0; s < sleepers; s++) {
                sum += (set >> s & 1) == 1 ? wage[s] : 0;
            }
            return sum;
        }
    }

    /** The tape, its tokens, and the way from them to a text or to a fault. */
    private static final class Reader {
        static final int MOST_BYTES = 2000;
        static final int MOST_TOKENS = 400;
        private static final int MOST_IFS = 4;
        private static final int MOST_BRACKETS = 6;

        private static final int SYNTAX = 1;
        private static final int ROOM = 2;
        private static final int TWICE = 3;
        private static final int NAME_FAULT = 4;
        private static final int WRONG = 5;

        /** Kinds of tokens; a sign's kind is its byte, a word's FIRST_WORD and its place in WORDS. */
        private static final int END = 0;
        private static final int NO_TOKEN = 1;
        private static final int NAME = 2;
        private static final int INT = 3;
        private static final int FIRST_WORD = 128;
        private static final int SPANS = 128;
        private static final int SLEEPER = 129;
        private static final int PAIR = 130;
        private static final int CROSSER = 131;
        private static final int FIRST_LAW = 132;
        private static final int LAST_LAW = 134;
        private static final int DAWN = 135;
        private static final int BONUS = 136;
        private static final int SEED = 137;
        private static final int IF = 138;
        private static final int THEN = 139;
        private static final int ELSE = 140;
        private static final int FIRST_VAR = 141;
        private static final int LAST_VAR = 149;
        private static final int WORD_COUNT = 22;
        private static final String WORDS =
                "spans sleeper pair crosser holds wakes deepens dawn bonus seed if then else depth weight hour noise which span beside load wage";
        private static final String SIGNS = ";=+-*/<()";

        int length;
        /** The byte of the latest fault. */
        int place = NONE;
        private final byte[] tape = new byte[MOST_BYTES];
        private final long[] words = new long[WORD_COUNT];
        /** A 401st token is looked at too, and the end has a place of its own behind. */
        private final int[] kinds = new int[MOST_TOKENS + 2];
        private final int[] starts = new int[MOST_TOKENS + 2];
        /** A name's letters, or an int's number. */
        private final long[] values = new long[MOST_TOKENS + 2];
        private int size;
        private int at;
        private int fault;
        /** Faults 3 to 5 count only if there are none of 1 and 2, so they wait here. */
        private int laterFault;
        private int laterPlace;
        private Text text;

        Reader() {
            int word = 0;
            for (int i = 0; i < WORDS.length(); i++) {
                char letter = WORDS.charAt(i);
                if (letter == ' ') {
                    word++;
                } else if (word < WORD_COUNT) {
                    words[word] = withLetter(words[word], letter);
                }
            }
        }

        /** Eight letters fit into 40 bits, so names can be told from one another by a long. */
        private static long withLetter(long name, int letter) {
            return name << 5 | letter - 'a' + 1;
        }

        boolean hasRoom() {
            return length + 20 <= MOST_BYTES;
        }

        void addFour(int bytes) {
            for (int shift = 24; shift >= 0 && length < MOST_BYTES; shift -= 8) {
                tape[length] = (byte) (bytes >> shift);
                length++;
            }
        }

        /** Answers the fault's number, or 0: then the text is full. */
        int parse(Text into) {
            text = into;
            text.clear();
            fault = 0;
            laterFault = 0;
            at = 0;
            scanTape();
            for (int tells = 0; tells < MOST_TOKENS && fault == 0 && kinds[at] != END; tells++) {
                parseTell();
            }
            if (text.someLieOutside()) {
                noteLater(WRONG, length);
            }
            if (fault == 0 && laterFault != 0) {
                fault = laterFault;
                place = laterPlace;
            }
            if (fault == 0) {
                place = NONE;
            }
            return fault;
        }

        private void scanTape() {
            size = 0;
            int from = behindBlanks(0);
            while (from < length && size <= MOST_TOKENS) {
                starts[size] = from;
                from = behindBlanks(scanToken(from));
                size++;
            }
            kinds[size] = END;
            starts[size] = length;
        }

        private int behindBlanks(int from) {
            int i = from;
            while (i < length && (tape[i] == ' ' || tape[i] == 9 || tape[i] == 10 || tape[i] == 13)) {
                i++;
            }
            return i;
        }

        /** Answers the byte behind the token. */
        private int scanToken(int from) {
            if (isLetter(from)) {
                return scanWord(from);
            }
            if (isDigit(from)) {
                return scanInt(from);
            }
            kinds[size] = tape[from] > 0 && SIGNS.indexOf((char) tape[from]) >= 0 ? tape[from] : NO_TOKEN;
            return from + 1;
        }

        private boolean isLetter(int i) {
            return i < length && tape[i] >= 'a' && tape[i] <= 'z';
        }

        private boolean isDigit(int i) {
            return i < length && tape[i] >= '0' && tape[i] <= '9';
        }

        private int scanWord(int from) {
            long name = 0;
            int i = from;
            while (i < length && isLetter(i)) {
                name = withLetter(name, tape[i]);
                i++;
            }
            values[size] = name;
            kinds[size] = i - from > 8 ? NO_TOKEN : NAME;
            for (int word = 0; word < WORD_COUNT && i - from <= 8; word++) {
                if (words[word] == name) {
                    kinds[size] = FIRST_WORD + word;
                }
            }
            return i;
        }

        private int scanInt(int from) {
            int number = 0;
            int i = from;
            while (i < length && isDigit(i)) {
                number = number * 10 + tape[i] - '0';
                i++;
            }
            values[size] = number;
            kinds[size] = i - from > 4 ? NO_TOKEN : INT;
            return i;
        }

        /** What is both, no way to go on and a 401st token, is the first of these. */
        private void take(int kind) {
            if (fault != 0) {
                return;
            }
            if (kinds[at] == kind && at < MOST_TOKENS) {
                at++;
            } else {
                fault = kinds[at] == kind ? ROOM : SYNTAX;
                place = starts[at];
            }
        }

        /** Only the first counts: all others are further on. */
        private void fail(int number) {
            if (fault == 0) {
                fault = number;
                place = starts[at];
            }
        }

        private void noteLater(int number, int where) {
            if (laterFault == 0) {
                laterFault = number;
                laterPlace = where;
            }
        }

        private boolean sees(int kind) {
            return fault == 0 && kinds[at] == kind;
        }

        private void parseTell() {
            int kind = kinds[at];
            if (kind == SLEEPER) {
                parseSleeper();
            } else if (kind == PAIR) {
                parsePair();
            } else if (kind == CROSSER) {
                parseCrosser();
            } else if (kind >= FIRST_LAW && kind <= LAST_LAW) {
                parseLaw(kind);
            } else {
                parseNumber(kind);
            }
            take(';');
        }

        private void parseNumber(int kind) {
            if (kind == SPANS) {
                take(kind);
                text.spans = takeInt(1, MOST_SPANS);
            } else if (kind == DAWN) {
                take(kind);
                text.dawn = takeInt(0, 99);
            } else if (kind == BONUS) {
                take(kind);
                text.bonus = takeInt(0, 99);
            } else if (kind == SEED) {
                take(kind);
                text.seed = takeInt(0, 9999);
            } else {
                fail(SYNTAX);
            }
        }

        private void parseSleeper() {
            int s = text.sleepers;
            if (s == MOST_SLEEPERS) {
                fail(ROOM);
                return;
            }
            take(SLEEPER);
            text.sleeperNames[s] = takeNewName();
            text.depth[s] = takeInt(0, 99);
            text.weight[s] = takeInt(0, 9);
            text.wage[s] = takeInt(0, 9);
            text.lies[s] = takeInt(0, MOST_SPANS - 1);
            text.sleepers++;
        }

        private void parseCrosser() {
            int c = text.crossers;
            if (c == MOST_CROSSERS) {
                fail(ROOM);
                return;
            }
            take(CROSSER);
            text.crosserNames[c] = takeNewName();
            text.load[c] = takeInt(0, 99);
            text.noise[c] = takeInt(0, 9);
            text.toll[c] = takeInt(0, 99);
            text.crossers++;
        }

        private void parsePair() {
            if (text.pairs == MOST_PAIRS) {
                fail(ROOM);
                return;
            }
            take(PAIR);
            int one = takeSleeper();
            int where = starts[at];
            int other = takeSleeper();
            int bits = one == NONE || other == NONE ? 0 : 1 << one | 1 << other;
            if (bits != 0 && (one == other || text.hasPair(bits))) {
                noteLater(TWICE, where);
            }
            text.pairBits[text.pairs] = bits;
            text.pairs++;
        }

        private long takeNewName() {
            long name = values[at];
            int where = starts[at];
            take(NAME);
            if (fault == 0 && text.isTaken(name)) {
                noteLater(TWICE, where);
            }
            return name;
        }

        private int takeSleeper() {
            int sleeper = text.sleeperNamed(values[at]);
            int where = starts[at];
            take(NAME);
            if (sleeper == NONE) {
                noteLater(NAME_FAULT, where);
            }
            return sleeper;
        }

        private int takeInt(int least, int most) {
            int number = (int) values[at];
            int where = starts[at];
            take(INT);
            if (number < least || number > most) {
                noteLater(WRONG, where);
            }
            return number;
        }

        private void parseLaw(int kind) {
            take(kind);
            take('=');
            text.laws.begin(kind - FIRST_LAW);
            for (int ifs = 0; ifs <= MOST_IFS && sees(IF); ifs++) {
                if (ifs == MOST_IFS) {
                    fail(ROOM);
                }
                take(IF);
                parseSum(0);
                take('<');
                parseSum(0);
                int test = text.laws.addTest();
                take(THEN);
                parseSum(0);
                text.laws.add(Laws.END, 0);
                take(ELSE);
                text.laws.aim(test);
            }
            parseSum(0);
            text.laws.add(Laws.END, 0);
        }

        private void parseSum(int brackets) {
            parseProduct(brackets);
            for (int i = 0; i < MOST_TOKENS && (sees('+') || sees('-')); i++) {
                int sign = kinds[at];
                take(sign);
                parseProduct(brackets);
                text.laws.add(sign == '+' ? Laws.ADD : Laws.SUBTRACT, 0);
            }
        }

        private void parseProduct(int brackets) {
            parseUnit(brackets);
            for (int i = 0; i < MOST_TOKENS && (sees('*') || sees('/')); i++) {
                int sign = kinds[at];
                take(sign);
                parseUnit(brackets);
                text.laws.add(sign == '*' ? Laws.MULTIPLY : Laws.DIVIDE, 0);
            }
        }

        private void parseUnit(int brackets) {
            int kind = kinds[at];
            if (fault != 0) {
                return;
            }
            if (kind == '(' && brackets >= MOST_BRACKETS) {
                fail(ROOM);
            } else if (kind == '(') {
                take('(');
                parseSum(brackets + 1);
                take(')');
            } else if (kind >= FIRST_VAR && kind <= LAST_VAR) {
                text.laws.add(Laws.LOOK, kind - FIRST_VAR);
                take(kind);
            } else {
                text.laws.add(Laws.PUSH, (int) values[at]);
                take(INT);
            }
        }
    }

    /** All that goes on. */
    private static final class Night {
        static final int CELLS = 5 + 2 * MOST_SLEEPERS + 2 * MOST_CROSSERS;

        int hour;
        int nights;
        int allHours;
        int tolls;
        /** Bits; nobody is in it from dawn on. */
        int asleep;
        final int[] depth = new int[MOST_SLEEPERS];
        final int[] lies = new int[MOST_SLEEPERS];
        final int[] where = new int[MOST_CROSSERS];
        final int[] overs = new int[MOST_CROSSERS];

        void beginFirst(Text text) {
            nights = 1;
            allHours = 0;
            tolls = 0;
            putToSleep(text);
            for (int s = 0; s < MOST_SLEEPERS; s++) {
                lies[s] = text.lies[s];
            }
            for (int c = 0; c < MOST_CROSSERS; c++) {
                where[c] = HOME;
                overs[c] = 0;
            }
        }

        void beginNext(Text text) {
            nights++;
            putToSleep(text);
            for (int c = 0; c < MOST_CROSSERS; c++) {
                if (where[c] == OVER || where[c] == SENT) {
                    where[c] = HOME;
                } else if (where[c] != HOME) {
                    where[c] = FALLEN;
                }
            }
        }

        private void putToSleep(Text text) {
            hour = 0;
            asleep = text.asleepAt(hour, 0);
            for (int s = 0; s < MOST_SLEEPERS; s++) {
                depth[s] = text.depth[s];
            }
        }

        int asleepOn(int span) {
            int set = 0;
            for (int s = 0; s < MOST_SLEEPERS; s++) {
                if (lies[s] == span) {
                    set |= 1 << s;
                }
            }
            return set & asleep;
        }

        int allOvers() {
            int sum = 0;
            for (int c = 0; c < MOST_CROSSERS; c++) {
                sum += overs[c];
            }
            return sum;
        }

        void copy(Night other) {
            hour = other.hour;
            nights = other.nights;
            allHours = other.allHours;
            tolls = other.tolls;
            asleep = other.asleep;
            System.arraycopy(other.depth, 0, depth, 0, MOST_SLEEPERS);
            System.arraycopy(other.lies, 0, lies, 0, MOST_SLEEPERS);
            System.arraycopy(other.where, 0, where, 0, MOST_CROSSERS);
            System.arraycopy(other.overs, 0, overs, 0, MOST_CROSSERS);
        }
    }

    /** Nights laid by, all in one row, so that an object needs few arrays. */
    private static final class Shelf {
        private final int[] cells;

        Shelf(int nights) {
            cells = new int[Math.max(0, nights) * Night.CELLS];
        }

        private boolean has(int place) {
            return place >= 0 && place < cells.length / Night.CELLS;
        }

        void store(int place, Night night) {
            if (!has(place)) {
                return;
            }
            int from = place * Night.CELLS;
            cells[from] = night.hour;
            cells[from + 1] = night.nights;
            cells[from + 2] = night.allHours;
            cells[from + 3] = night.tolls;
            cells[from + 4] = night.asleep;
            from += 5;
            System.arraycopy(night.depth, 0, cells, from, MOST_SLEEPERS);
            from += MOST_SLEEPERS;
            System.arraycopy(night.lies, 0, cells, from, MOST_SLEEPERS);
            from += MOST_SLEEPERS;
            System.arraycopy(night.where, 0, cells, from, MOST_CROSSERS);
            from += MOST_CROSSERS;
            System.arraycopy(night.overs, 0, cells, from, MOST_CROSSERS);
        }

        void fetch(int place, Night night) {
            if (!has(place)) {
                return;
            }
            int from = place * Night.CELLS;
            night.hour = cells[from];
            night.nights = cells[from + 1];
            night.allHours = cells[from + 2];
            night.tolls = cells[from + 3];
            night.asleep = cells[from + 4];
            from += 5;
            System.arraycopy(cells, from, night.depth, 0, MOST_SLEEPERS);
            from += MOST_SLEEPERS;
            System.arraycopy(cells, from, night.lies, 0, MOST_SLEEPERS);
            from += MOST_SLEEPERS;
            System.arraycopy(cells, from, night.where, 0, MOST_CROSSERS);
            from += MOST_CROSSERS;
            System.arraycopy(cells, from, night.overs, 0, MOST_CROSSERS);
        }
    }

    /** What is held and borne, and what an hour does, by the text that is in place. */
    private static final class Rules {
        /** What a law can look at, in the order of the words; a power of 2 that has room for all. */
        static final int SEEN = 16;
        private static final int DEPTH = 0;
        private static final int WEIGHT = 1;
        private static final int HOUR = 2;
        private static final int NOISE = 3;
        private static final int WHICH = 4;
        private static final int SPAN = 5;
        private static final int BESIDE = 6;
        private static final int LOAD = 7;
        private static final int WAGE = 8;

        Text text;
        private final int[] seen = new int[SEEN];

        Rules(Text text) {
            this.text = text;
        }

        int loadOn(Night night, int span) {
            int sum = 0;
            for (int c = 0; c < text.crossers; c++) {
                sum += night.where[c] == span ? text.load[c] : 0;
            }
            return sum;
        }

        int noiseOf(Night night) {
            int sum = 0;
            for (int c = 0; c < text.crossers; c++) {
                int place = night.where[c];
                sum += place >= 0 && place < MOST_SPANS ? text.noise[c] : 0;
            }
            return sum;
        }

        int crossersAt(Night night, int place) {
            int set = 0;
            for (int c = 0; c < text.crossers; c++) {
                set |= night.where[c] == place ? 1 << c : 0;
            }
            return set;
        }

        boolean someAreOnTheWay(Night night) {
            for (int c = 0; c < text.crossers; c++) {
                if (night.where[c] == SENT || night.where[c] >= 0 && night.where[c] < MOST_SPANS) {
                    return true;
                }
            }
            return false;
        }

        int lyingOn(Night night, int span) {
            int set = 0;
            for (int s = 0; s < text.sleepers; s++) {
                set |= night.lies[s] == span ? 1 << s : 0;
            }
            return set;
        }

        int pairsIn(int set) {
            int sum = 0;
            for (int p = 0; p < text.pairs; p++) {
                sum += (text.pairBits[p] & ~set) == 0 ? 1 : 0;
            }
            return sum;
        }

        int allDreams(Night night) {
            int sum = 0;
            for (int span = 0; span < text.spans; span++) {
                sum += pairsIn(night.asleepOn(span));
            }
            return sum;
        }

        int borne(Night night, int span) {
            return borneBy(night, span, night.asleepOn(span));
        }

        int leastBorne(Night night) {
            int least = borne(night, 0);
            for (int span = 1; span < text.spans; span++) {
                least = Math.min(least, borne(night, span));
            }
            return least;
        }

        /** What a span would bear if just a set of sleepers were asleep on it. */
        int borneBy(Night night, int span, int set) {
            if (set == 0) {
                return 0;
            }
            lookAtSpan(night, span, Integer.bitCount(set) - 1);
            int sum = text.bonus * pairsIn(set);
            for (int s = 0; s < text.sleepers; s++) {
                if ((set >> s & 1) == 1) {
                    lookAtSleeper(night, s);
                    sum += within(text.laws.value(HOLDS, seen), 0, 99);
                }
            }
            return sum;
        }

        int held(Night night, int s) {
            if ((night.asleep >> s & 1) == 0) {
                return 0;
            }
            lookAsItLies(night, s);
            return within(text.laws.value(HOLDS, seen), 0, 99);
        }

        int wakingOf(Night night, int s) {
            lookAsItLies(night, s);
            return waking();
        }

        int deepeningOf(Night night, int s) {
            lookAsItLies(night, s);
            return deepening();
        }

        /** Of the sleeper that was looked at last, as is deepening(). */
        private int waking() {
            return within(text.laws.value(WAKES, seen), 0, 100);
        }

        private int deepening() {
            return within(text.laws.value(DEEPENS, seen), -9, 9);
        }

        private void lookAsItLies(Night night, int s) {
            int beside = Integer.bitCount(night.asleepOn(night.lies[s])) - 1;
            lookAtSpan(night, night.lies[s], beside);
            lookAtSleeper(night, s);
        }

        private void lookAtSpan(Night night, int span, int beside) {
            seen[HOUR] = night.hour;
            seen[SPAN] = span;
            seen[BESIDE] = beside;
            seen[NOISE] = 0;
            seen[LOAD] = 0;
            for (int c = 0; c < text.crossers; c++) {
                int place = night.where[c];
                seen[NOISE] += place >= 0 && place < MOST_SPANS ? text.noise[c] : 0;
                seen[LOAD] += place == span ? text.load[c] : 0;
            }
        }

        private void lookAtSleeper(Night night, int s) {
            seen[DEPTH] = night.depth[s];
            seen[WEIGHT] = text.weight[s];
            seen[WHICH] = s;
            seen[WAGE] = text.wage[s];
        }

        void passHours(Night night, int n, boolean quiet, int seed) {
            for (int i = 0; i < n; i++) {
                sleepOn(night, quiet, seed);
                night.hour++;
                night.allHours++;
                night.asleep = text.asleepAt(night.hour, ~night.asleep);
                letSpansBreak(night);
                letCrossersGo(night);
            }
        }

        /** No law looks at another one's depth, so depths can be changed at once, but not who sleeps. */
        private void sleepOn(Night night, boolean quiet, int seed) {
            int woken = 0;
            for (int s = 0; s < text.sleepers; s++) {
                if ((night.asleep >> s & 1) == 0) {
                    continue;
                }
                lookAsItLies(night, s);
                if (!quiet && lotOf100(seed, 16 * night.allHours + s) < waking()) {
                    woken |= 1 << s;
                } else {
                    night.depth[s] = within(night.depth[s] + deepening(), 0, 99);
                }
            }
            night.asleep &= ~woken;
        }

        private static int lotOf100(int seed, int which) {
            int h = stirred(stirred(seed, 93), which);
            return (h >>> 1) % 100;
        }

        private static int stirred(int h, int by) {
            int next = (h ^ by) * 1103515245 + 12345;
            return next ^ next >>> 15;
        }

        private void letSpansBreak(Night night) {
            for (int span = 0; span < text.spans; span++) {
                int load = loadOn(night, span);
                if (load == 0 || load <= borne(night, span)) {
                    continue;
                }
                for (int c = 0; c < text.crossers; c++) {
                    if (night.where[c] == span) {
                        night.where[c] = FALLEN;
                    }
                }
            }
        }

        /** The furthest go first, so nobody who has gone on is met again. */
        private void letCrossersGo(Night night) {
            for (int next = text.spans; next >= 0; next--) {
                int from = next == 0 ? SENT : next - 1;
                for (int c = 0; c < text.crossers; c++) {
                    if (night.where[c] != from) {
                        continue;
                    }
                    if (next == text.spans) {
                        night.where[c] = OVER;
                        night.overs[c]++;
                        night.tolls += text.toll[c];
                    } else if (loadOn(night, next) + text.load[c] <= borne(night, next)) {
                        night.where[c] = next;
                    }
                }
            }
        }
    }

    /** Looks for the best of what would be. What it finds stands in its fields. */
    private static final class Plans {
        private static final int ORDER_HOURS = 20;
        private static final int MOST_WAIT = 40;
        private static final int SETS = 1 << MOST_SLEEPERS;

        int bestLeast;
        /** A sleeper, or a set of them. */
        int bestOne;
        int bestSpan;
        int bestWages;
        final int[] bestRow = new int[MOST_SLEEPERS];
        final int[] bestOrder = new int[MOST_CROSSERS];
        private final Rules rules;
        private final Night ghost = new Night();
        private final Night other = new Night();
        private final Shelf shelf = new Shelf(MOST_CROSSERS + 1);
        private final int[] row = new int[MOST_SLEEPERS];
        private final int[] sets = new int[MOST_SPANS];
        /** What each span would bear by each set, so that no row of spans needs a law. */
        private final int[] borne = new int[MOST_SPANS * SETS];
        private final int[] sending = new int[MOST_CROSSERS];
        private int bestToll;

        Plans(Rules rules) {
            this.rules = rules;
        }

        int findRows(Night now) {
            for (int span = 0; span < rules.text.spans; span++) {
                sets[span] = 0;
                for (int set = 0; set < SETS; set++) {
                    if ((set & ~now.asleep) == 0) {
                        borne[span * SETS + set] = rules.borneBy(now, span, set);
                    }
                }
            }
            bestLeast = NONE;
            tryRows(now, 0);
            return bestLeast;
        }

        /** Who is awake holds nothing anywhere, so the first row has it on span 0. */
        private void tryRows(Night now, int s) {
            if (s >= rules.text.sleepers || s >= MOST_SLEEPERS) {
                weighRow();
                return;
            }
            int bit = now.asleep & 1 << s;
            int spans = bit == 0 ? 1 : rules.text.spans;
            for (int span = 0; span < spans; span++) {
                row[s] = span;
                sets[span] |= bit;
                tryRows(now, s + 1);
                sets[span] &= ~bit;
            }
        }

        private void weighRow() {
            int least = borne[sets[0]];
            for (int span = 1; span < rules.text.spans; span++) {
                least = Math.min(least, borne[span * SETS + sets[span]]);
            }
            if (least > bestLeast) {
                bestLeast = least;
                System.arraycopy(row, 0, bestRow, 0, MOST_SLEEPERS);
            }
        }

        boolean findMove(Night now) {
            ghost.copy(now);
            bestOne = NONE;
            bestLeast = rules.leastBorne(now);
            for (int s = 0; s < rules.text.sleepers; s++) {
                for (int span = 0; span < rules.text.spans; span++) {
                    ghost.lies[s] = span;
                    int least = rules.leastBorne(ghost);
                    if (least > bestLeast) {
                        bestLeast = least;
                        bestOne = s;
                        bestSpan = span;
                    }
                }
                ghost.lies[s] = now.lies[s];
            }
            return bestOne != NONE;
        }

        boolean findCheapest(Night now, int load) {
            ghost.copy(now);
            bestOne = NONE;
            for (int set = 0; set < SETS; set++) {
                int wages = rules.text.wagesOf(set);
                if ((set & ~now.asleep) != 0 || bestOne != NONE && wages >= bestWages) {
                    continue;
                }
                ghost.asleep = set;
                if (rules.leastBorne(ghost) >= load) {
                    bestOne = set;
                    bestWages = wages;
                }
            }
            return bestOne != NONE;
        }

        void findMissed(Night now) {
            ghost.copy(now);
            bestOne = NONE;
            for (int s = 0; s < rules.text.sleepers; s++) {
                if ((now.asleep >> s & 1) == 0) {
                    continue;
                }
                ghost.asleep = now.asleep & ~(1 << s);
                int least = rules.leastBorne(ghost);
                if (bestOne == NONE || least < bestLeast) {
                    bestOne = s;
                    bestLeast = least;
                }
            }
        }

        int findOrder(Night now) {
            bestToll = NONE;
            shelf.store(0, now);
            tryOrders(now, rules.crossersAt(now, HOME), 0);
            return bestToll;
        }

        /** The shelf's place sent holds how all is behind as many hours. */
        private void tryOrders(Night now, int left, int sent) {
            if (left == 0 || sent >= MOST_CROSSERS) {
                shelf.fetch(sent, ghost);
                for (int n = sent; n < ORDER_HOURS && rules.someAreOnTheWay(ghost); n++) {
                    rules.passHours(ghost, 1, true, rules.text.seed);
                }
                weighOrder(ghost.tolls - now.tolls);
                return;
            }
            for (int c = 0; c < MOST_CROSSERS; c++) {
                if ((left >> c & 1) == 1) {
                    shelf.fetch(sent, ghost);
                    ghost.where[c] = SENT;
                    rules.passHours(ghost, 1, true, rules.text.seed);
                    shelf.store(sent + 1, ghost);
                    sending[sent] = c;
                    tryOrders(now, left & ~(1 << c), sent + 1);
                }
            }
        }

        private void weighOrder(int toll) {
            if (toll > bestToll) {
                bestToll = toll;
                System.arraycopy(sending, 0, bestOrder, 0, MOST_CROSSERS);
            }
        }

        int hoursUntilOver(Night now, int crosser) {
            ghost.copy(now);
            ghost.where[crosser] = SENT;
            return hoursOnTheWay(ghost, crosser, MOST_AHEAD, true, rules.text.seed);
        }

        int latestStart(Night now, int crosser) {
            int latest = NOT_AT_ALL;
            ghost.copy(now);
            for (int wait = 0; wait <= MOST_WAIT && ghost.hour < rules.text.dawn; wait++) {
                other.copy(ghost);
                other.where[crosser] = SENT;
                if (hoursOnTheWay(other, crosser, rules.text.dawn - ghost.hour, true, rules.text.seed) != NOT_AT_ALL) {
                    latest = wait;
                }
                rules.passHours(ghost, 1, true, rules.text.seed);
            }
            return latest;
        }

        int seedsOver(Night now, int crosser, int n, int seeds) {
            int overs = 0;
            for (int i = 0; i < seeds; i++) {
                ghost.copy(now);
                if (ghost.where[crosser] == HOME) {
                    ghost.where[crosser] = SENT;
                }
                overs += hoursOnTheWay(ghost, crosser, n, false, rules.text.seed + i) == NOT_AT_ALL ? 0 : 1;
            }
            return overs;
        }

        /** Until it is over, but for most hours; the night is of no use behind. */
        private int hoursOnTheWay(Night night, int crosser, int most, boolean quiet, int seed) {
            for (int n = 0; n <= most && night.where[crosser] != FALLEN; n++) {
                if (night.where[crosser] == OVER) {
                    return n;
                }
                rules.passHours(night, 1, quiet, seed);
            }
            return NOT_AT_ALL;
        }
    }

    /** What was told of spans, and who may be awake by it. */
    private static final class Rumours {
        private static final int MOST_TOLD = 20;
        private static final int MOST_SETS = 1 << MOST_SLEEPERS;

        int size;
        /** Of awake ones, as findSets() found them. */
        final int[] sets = new int[MOST_SETS];
        private int setCount;
        private final int[] spans = new int[MOST_TOLD];
        private final int[] amounts = new int[MOST_TOLD];
        private final int[] answers = new int[MOST_SETS];
        private final Night ghost = new Night();
        private final Rules rules;

        Rumours(Rules rules) {
            this.rules = rules;
        }

        int add(int span, int amount) {
            if (size >= MOST_TOLD) {
                return NONE;
            }
            spans[size] = span;
            amounts[size] = amount;
            size++;
            return size - 1;
        }

        int findSets(Night now, int known) {
            ghost.copy(now);
            setCount = 0;
            int all = (1 << rules.text.sleepers) - 1;
            for (int set = 0; set <= all && setCount < MOST_SETS; set++) {
                ghost.asleep = rules.text.asleepAt(ghost.hour, set);
                if (isSo(known)) {
                    sets[setCount] = set;
                    setCount++;
                }
            }
            return setCount;
        }

        private boolean isSo(int known) {
            for (int i = 0; i < known && i < MOST_TOLD; i++) {
                if (rules.borne(ghost, spans[i]) != amounts[i]) {
                    return false;
                }
            }
            return true;
        }

        /** By the sets that findSets() found, and its ghost. */
        int bestQuestion() {
            int best = 0;
            int fewest = MOST_SETS + 1;
            for (int span = 0; span < rules.text.spans; span++) {
                int left = mostLeft(span);
                if (left < fewest) {
                    fewest = left;
                    best = span;
                }
            }
            return best;
        }

        private int mostLeft(int span) {
            int most = 0;
            for (int i = 0; i < setCount; i++) {
                ghost.asleep = rules.text.asleepAt(ghost.hour, sets[i]);
                answers[i] = rules.borne(ghost, span);
                int alike = 0;
                for (int j = 0; j <= i; j++) {
                    alike += answers[j] == answers[i] ? 1 : 0;
                }
                most = Math.max(most, alike);
            }
            return most;
        }
    }
}
