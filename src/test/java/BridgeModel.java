import java.nio.charset.StandardCharsets;
import java.util.ArrayDeque;
import java.util.ArrayList;
import java.util.Arrays;
import java.util.Deque;
import java.util.HashMap;
import java.util.HashSet;
import java.util.LinkedHashSet;
import java.util.List;
import java.util.Map;
import java.util.Set;

/**
 * The document once more, written slowly and with other means than the class: grammar rules that are
 * tried side by side, laws split at their last sign, all sets and rows and orders gone through one by one.
 */
final class BridgeModel {
    static final int NONE = -1;
    static final int HOME = -2;
    static final int SENT = -3;
    static final int OVER = 9;
    static final int FALLEN = 10;

    private static final Set<String> WORDS = new HashSet<>(List.of("spans", "sleeper", "pair", "crosser", "holds", "wakes", "deepens", "dawn",
            "bonus", "seed", "if", "then", "else", "depth", "weight", "hour", "noise", "which", "span", "beside", "load", "wage"));

    private static final Map<String, String[]> GRAMMAR = new HashMap<>();

    static {
        GRAMMAR.put("TEXT", new String[] {"", "TELL TEXT"});
        GRAMMAR.put("TELL", new String[] {"spans INT ;", "sleeper NAME INT INT INT INT ;", "pair NAME NAME ;", "crosser NAME INT INT INT ;",
            "holds LAW ;", "wakes LAW ;", "deepens LAW ;", "dawn INT ;", "bonus INT ;", "seed INT ;"});
        GRAMMAR.put("LAW", new String[] {"= IFS E"});
        GRAMMAR.put("IFS", new String[] {"", "if E < E then E else IFS"});
        GRAMMAR.put("E", new String[] {"PART PARTS"});
        GRAMMAR.put("PARTS", new String[] {"", "+ PART PARTS", "- PART PARTS"});
        GRAMMAR.put("PART", new String[] {"UNIT UNITS"});
        GRAMMAR.put("UNITS", new String[] {"", "* UNIT UNITS", "/ UNIT UNITS"});
        GRAMMAR.put("UNIT", new String[] {"INT", "VAR", "( E )"});
        GRAMMAR.put("VAR", new String[] {"depth", "weight", "hour", "noise", "which", "span", "beside", "load", "wage"});
    }

    record Token(String kind, String word, int start) { }

    record Sleeper(String name, int depth, int weight, int wage, int span) { }

    record Crosser(String name, int load, int noise, int toll) { }

    record Told(int span, int bears) { }

    /** Division by 0 in something that is looked at. */
    private static final class ByZero extends RuntimeException {
        private static final long serialVersionUID = 1L;
    }

    static final class Text {
        int spans = 3;
        int dawn = 12;
        int bonus = 5;
        int seed = 0;
        final List<Sleeper> sleepers = new ArrayList<>();
        final List<Set<Integer>> pairs = new ArrayList<>();
        final List<Crosser> crossers = new ArrayList<>();
        final Map<String, List<String>> laws = new HashMap<>();

        Text() {
            laws.put("holds", List.of("depth"));
            laws.put("wakes", List.of("0"));
            laws.put("deepens", List.of("0"));
        }
    }

    static final class State {
        int hour;
        int nights = 1;
        int total;
        int tolls;
        boolean[] asleep = new boolean[0];
        int[] depth = new int[0];
        int[] span = new int[0];
        int[] where = new int[0];
        int[] overs = new int[0];

        State copy() {
            State s = new State();
            s.hour = hour;
            s.nights = nights;
            s.total = total;
            s.tolls = tolls;
            s.asleep = asleep.clone();
            s.depth = depth.clone();
            s.span = span.clone();
            s.where = where.clone();
            s.overs = overs.clone();
            return s;
        }
    }

    private Text text = new Text();
    private State now = new State();
    private final List<Byte> tape = new ArrayList<>();
    private final Deque<State> past = new ArrayDeque<>();
    private final State[] slots = new State[3];
    private final List<Told> told = new ArrayList<>();
    private int place = NONE;

    // ---- the text

    int feed(int a, int b, int c, int d, int e) {
        if (tape.size() + 20 > 2000) {
            return NONE;
        }
        for (int four : new int[] {a, b, c, d, e}) {
            for (byte one : java.nio.ByteBuffer.allocate(4).putInt(four).array()) {
                tape.add(one);
            }
        }
        return tape.size();
    }

    int back(int n) {
        if (n < 0 || n > tape.size()) {
            return NONE;
        }
        for (int i = 0; i < n; i++) {
            tape.remove(tape.size() - 1);
        }
        return tape.size();
    }

    int place() {
        return place;
    }

    int read() {
        byte[] bytes = new byte[tape.size()];
        for (int i = 0; i < bytes.length; i++) {
            bytes[i] = tape.get(i);
        }
        tape.clear();
        List<Token> tokens = tokensOf(new String(bytes, StandardCharsets.ISO_8859_1));
        int[] fault = hardFault(tokens);
        Text fresh = new Text();
        if (fault == null) {
            fault = softFault(tokens, fresh, bytes.length);
        }
        if (fault != null) {
            place = fault[1];
            return fault[0];
        }
        place = NONE;
        text = fresh;
        now = new State();
        int n = text.sleepers.size();
        now.asleep = new boolean[n];
        now.depth = new int[n];
        now.span = new int[n];
        for (int s = 0; s < n; s++) {
            now.span[s] = text.sleepers.get(s).span();
        }
        layDown(now);
        now.where = new int[text.crossers.size()];
        Arrays.fill(now.where, HOME);
        now.overs = new int[text.crossers.size()];
        past.clear();
        Arrays.fill(slots, null);
        told.clear();
        return 0;
    }

    private void layDown(State state) {
        state.hour = 0;
        for (int s = 0; s < state.asleep.length; s++) {
            state.asleep[s] = text.dawn != 0;
            state.depth[s] = text.sleepers.get(s).depth();
        }
    }

    /** The last one is the text's end. */
    private static List<Token> tokensOf(String tape) {
        List<Token> tokens = new ArrayList<>();
        int i = 0;
        while (i < tape.length()) {
            char sign = tape.charAt(i);
            int end = i + 1;
            if ("\t\n\r ".indexOf(sign) >= 0) {
                i++;
                continue;
            }
            String run = String.valueOf(sign);
            for (String sort : new String[] {"[a-z]+", "[0-9]+"}) {
                while (run.matches(sort) && end < tape.length() && tape.substring(i, end + 1).matches(sort)) {
                    end++;
                    run = tape.substring(i, end);
                }
            }
            String kind = "NOTHING";
            if (WORDS.contains(run) || run.matches("[;=+\\-*/<()]")) {
                kind = run;
            } else if (run.matches("[a-z]{1,8}")) {
                kind = "NAME";
            } else if (run.matches("[0-9]{1,4}")) {
                kind = "INT";
            }
            tokens.add(new Token(kind, run, i));
            i = end;
        }
        tokens.add(new Token("END", "", tape.length()));
        return tokens;
    }

    private static int[] hardFault(List<Token> tokens) {
        Set<List<String>> stacks = new LinkedHashSet<>();
        stacks.add(List.of("TEXT", "END"));
        Map<String, Integer> counts = new HashMap<>();
        Map<String, Integer> most = Map.of("sleeper", 6, "pair", 6, "crosser", 5, "if", 4, "(", 6);
        for (int i = 0; i < tokens.size(); i++) {
            Token token = tokens.get(i);
            Set<List<String>> next = new LinkedHashSet<>();
            for (List<String> stack : stacks) {
                goOn(stack, token.kind(), next);
            }
            if (next.isEmpty()) {
                return new int[] {1, token.start()};
            }
            stacks = next;
            if (token.kind().equals("END")) {
                break;
            }
            if (List.of("holds", "wakes", "deepens").contains(token.kind())) {
                counts.put("if", 0);
                counts.put("(", 0);
            }
            counts.merge(token.kind(), 1, Integer::sum);
            if (token.kind().equals(")")) {
                counts.merge("(", -1, Integer::sum);
            }
            if (i == 400 || most.containsKey(token.kind()) && counts.get(token.kind()) > most.get(token.kind())) {
                return new int[] {2, token.start()};
            }
        }
        return null;
    }

    private static void goOn(List<String> stack, String kind, Set<List<String>> next) {
        if (stack.isEmpty()) {
            return;
        }
        List<String> rest = stack.subList(1, stack.size());
        String[] rules = GRAMMAR.get(stack.get(0));
        if (rules == null) {
            if (stack.get(0).equals(kind)) {
                next.add(new ArrayList<>(rest));
            }
            return;
        }
        for (String rule : rules) {
            List<String> longer = new ArrayList<>();
            if (!rule.isEmpty()) {
                longer.addAll(List.of(rule.split(" ")));
            }
            longer.addAll(rest);
            goOn(longer, kind, next);
        }
    }

    private static int[] softFault(List<Token> tokens, Text fresh, int length) {
        List<int[]> faults = new ArrayList<>();
        List<String> names = new ArrayList<>();
        int from = 0;
        for (int i = 0; i < tokens.size(); i++) {
            if (tokens.get(i).kind().equals(";")) {
                tellOne(tokens.subList(from, i), fresh, names, faults);
                from = i + 1;
            }
        }
        for (Sleeper sleeper : fresh.sleepers) {
            if (sleeper.span() >= fresh.spans) {
                faults.add(new int[] {5, length});
            }
        }
        int[] first = null;
        for (int[] fault : faults) {
            if (first == null || fault[1] < first[1] || fault[1] == first[1] && fault[0] < first[0]) {
                first = fault;
            }
        }
        return first;
    }

    private static void tellOne(List<Token> tell, Text fresh, List<String> names, List<int[]> faults) {
        String sort = tell.get(0).kind();
        switch (sort) {
            case "spans" -> fresh.spans = number(tell.get(1), 1, 5, faults);
            case "dawn" -> fresh.dawn = number(tell.get(1), 0, 99, faults);
            case "bonus" -> fresh.bonus = number(tell.get(1), 0, 99, faults);
            case "seed" -> fresh.seed = number(tell.get(1), 0, 9999, faults);
            case "sleeper" -> {
                newName(tell.get(1), names, faults);
                fresh.sleepers.add(new Sleeper(tell.get(1).word(), number(tell.get(2), 0, 99, faults), number(tell.get(3), 0, 9, faults),
                        number(tell.get(4), 0, 9, faults), number(tell.get(5), 0, 4, faults)));
            }
            case "crosser" -> {
                newName(tell.get(1), names, faults);
                fresh.crossers.add(new Crosser(tell.get(1).word(), number(tell.get(2), 0, 99, faults), number(tell.get(3), 0, 9, faults),
                        number(tell.get(4), 0, 99, faults)));
            }
            case "pair" -> {
                Set<Integer> pair = new HashSet<>();
                for (int i = 1; i <= 2; i++) {
                    pair.add(sleeperNamed(tell.get(i), fresh, faults));
                }
                if (pair.size() == 1 && !pair.contains(NONE) || fresh.pairs.contains(pair) && !pair.contains(NONE)) {
                    faults.add(new int[] {3, tell.get(2).start()});
                }
                fresh.pairs.add(pair);
            }
            default -> {
                List<String> law = new ArrayList<>();
                for (Token token : tell.subList(2, tell.size())) {
                    law.add(token.word());
                }
                fresh.laws.put(sort, law);
            }
        }
    }

    private static int number(Token token, int least, int most, List<int[]> faults) {
        int number = Integer.parseInt(token.word());
        if (number < least || number > most) {
            faults.add(new int[] {5, token.start()});
        }
        return number;
    }

    private static void newName(Token token, List<String> names, List<int[]> faults) {
        if (names.contains(token.word())) {
            faults.add(new int[] {3, token.start()});
        }
        names.add(token.word());
    }

    private static int sleeperNamed(Token token, Text fresh, List<int[]> faults) {
        for (int s = 0; s < fresh.sleepers.size(); s++) {
            if (fresh.sleepers.get(s).name().equals(token.word())) {
                return s;
            }
        }
        faults.add(new int[] {4, token.start()});
        return NONE;
    }

    // ---- laws, what is held and borne

    private static int law(List<String> law, Map<String, Integer> seen) {
        try {
            List<String> rest = law;
            while (rest.get(0).equals("if")) {
                int less = rest.indexOf("<");
                int then = rest.indexOf("then");
                int other = rest.indexOf("else");
                if (value(rest.subList(1, less), seen) < value(rest.subList(less + 1, then), seen)) {
                    return value(rest.subList(then + 1, other), seen);
                }
                rest = rest.subList(other + 1, rest.size());
            }
            return value(rest, seen);
        } catch (ByZero zero) {
            return 0;
        }
    }

    private static int value(List<String> words, Map<String, Integer> seen) {
        for (String signs : new String[] {"+-", "*/"}) {
            int open = 0;
            for (int i = words.size() - 1; i > 0; i--) {
                String word = words.get(i);
                open += word.equals(")") ? 1 : word.equals("(") ? -1 : 0;
                if (open == 0 && signs.contains(word)) {
                    return joined(word, value(words.subList(0, i), seen), value(words.subList(i + 1, words.size()), seen));
                }
            }
        }
        if (words.get(0).equals("(")) {
            return value(words.subList(1, words.size() - 1), seen);
        }
        return seen.containsKey(words.get(0)) ? seen.get(words.get(0)) : Integer.parseInt(words.get(0));
    }

    private static int joined(String sign, long left, long right) {
        if (sign.equals("/") && right == 0) {
            throw new ByZero();
        }
        return (int) (sign.equals("+") ? left + right : sign.equals("-") ? left - right : sign.equals("*") ? left * right : left / right);
    }

    private static int held(int value, int least, int most) {
        return Math.min(Math.max(value, least), most);
    }

    private boolean isOnSpan(int where) {
        return where >= 0 && where <= 4;
    }

    private int load(State state, int span) {
        int sum = 0;
        for (int c = 0; c < state.where.length; c++) {
            sum += state.where[c] == span ? text.crossers.get(c).load() : 0;
        }
        return sum;
    }

    private int noise(State state) {
        int sum = 0;
        for (int c = 0; c < state.where.length; c++) {
            sum += isOnSpan(state.where[c]) ? text.crossers.get(c).noise() : 0;
        }
        return sum;
    }

    private int lawOf(String law, State state, int s) {
        Map<String, Integer> seen = new HashMap<>();
        int beside = 0;
        for (int other = 0; other < state.asleep.length; other++) {
            beside += other != s && state.asleep[other] && state.span[other] == state.span[s] ? 1 : 0;
        }
        seen.put("depth", state.depth[s]);
        seen.put("weight", text.sleepers.get(s).weight());
        seen.put("wage", text.sleepers.get(s).wage());
        seen.put("which", s);
        seen.put("span", state.span[s]);
        seen.put("beside", beside);
        seen.put("hour", state.hour);
        seen.put("noise", noise(state));
        seen.put("load", load(state, state.span[s]));
        return law(text.laws.get(law), seen);
    }

    private int holds(State state, int s) {
        return state.asleep[s] ? held(lawOf("holds", state, s), 0, 99) : 0;
    }

    private int dreamers(State state, int span) {
        int pairs = 0;
        for (Set<Integer> pair : text.pairs) {
            boolean both = true;
            for (int s : pair) {
                both &= state.asleep[s] && state.span[s] == span;
            }
            pairs += both ? 1 : 0;
        }
        return pairs;
    }

    private int bears(State state, int span) {
        int sum = text.bonus * dreamers(state, span);
        for (int s = 0; s < state.asleep.length; s++) {
            sum += state.span[s] == span ? holds(state, s) : 0;
        }
        return sum;
    }

    private int least(State state) {
        int least = Integer.MAX_VALUE;
        for (int span = 0; span < text.spans; span++) {
            least = Math.min(least, bears(state, span));
        }
        return least;
    }

    // ---- hours

    private static int lot(int n, int seed, int which) {
        int h = seed;
        for (int it : new int[] {93, which}) {
            h = (h ^ it) * 1103515245 + 12345;
            h = h ^ (h >>> 15);
        }
        return (h >>> 1) % n;
    }

    private void hour(State state, boolean quiet, int seed) {
        State began = state.copy();
        for (int s = 0; s < began.asleep.length; s++) {
            if (began.asleep[s]) {
                if (!quiet && lot(100, seed, 16 * began.total + s) < held(lawOf("wakes", began, s), 0, 100)) {
                    state.asleep[s] = false;
                } else {
                    state.depth[s] = held(began.depth[s] + held(lawOf("deepens", began, s), -9, 9), 0, 99);
                }
            }
        }
        state.hour++;
        state.total++;
        if (state.hour >= text.dawn) {
            Arrays.fill(state.asleep, false);
        }
        for (int span = 0; span < text.spans; span++) {
            if (load(state, span) > bears(state, span)) {
                for (int c = 0; c < state.where.length; c++) {
                    state.where[c] = state.where[c] == span ? FALLEN : state.where[c];
                }
            }
        }
        List<Integer> order = new ArrayList<>();
        for (int c = 0; c < state.where.length; c++) {
            order.add(c);
        }
        order.sort((x, y) -> began.where[y] == began.where[x] ? x - y : began.where[y] - began.where[x]);
        for (int c : order) {
            int next = state.where[c] == SENT ? 0 : state.where[c] + 1;
            if (state.where[c] != SENT && !isOnSpan(state.where[c])) {
                continue;
            }
            if (next == text.spans) {
                state.where[c] = OVER;
                state.overs[c]++;
                state.tolls += text.crossers.get(c).toll();
            } else if (bears(state, next) >= load(state, next) + text.crossers.get(c).load()) {
                state.where[c] = next;
            }
        }
    }

    private State in(State from, int n, boolean quiet, int seed) {
        State state = from.copy();
        for (int i = 0; i < n; i++) {
            hour(state, quiet, seed);
        }
        return state;
    }

    private void remember() {
        past.addLast(now.copy());
        if (past.size() > 40) {
            past.removeFirst();
        }
    }

    // ---- the face

    private boolean noSleeper(int s) {
        return s < 0 || s >= text.sleepers.size();
    }

    private boolean noCrosser(int c) {
        return c < 0 || c >= text.crossers.size();
    }

    private boolean noSpan(int span) {
        return span < 0 || span >= text.spans;
    }

    private static int bits(boolean[] those) {
        int bits = 0;
        for (int i = 0; i < those.length; i++) {
            bits += those[i] ? 1 << i : 0;
        }
        return bits;
    }

    private static int bitsOf(int[] row, int value) {
        int bits = 0;
        for (int i = 0; i < row.length; i++) {
            bits += row[i] == value ? 1 << i : 0;
        }
        return bits;
    }

    int sleeper(int s, int what) {
        if (noSleeper(s)) {
            return NONE;
        }
        return switch (what) {
            case 0 -> now.depth[s];
            case 1 -> text.sleepers.get(s).weight();
            case 2 -> text.sleepers.get(s).wage();
            case 3 -> now.span[s];
            case 4 -> now.asleep[s] ? 1 : 0;
            case 5 -> holds(now, s);
            default -> NONE;
        };
    }

    int crosser(int c, int what) {
        if (noCrosser(c)) {
            return NONE;
        }
        return switch (what) {
            case 0 -> text.crossers.get(c).load();
            case 1 -> text.crossers.get(c).noise();
            case 2 -> text.crossers.get(c).toll();
            case 3 -> now.where[c];
            case 4 -> now.overs[c];
            default -> NONE;
        };
    }

    int span(int span, int what) {
        if (noSpan(span)) {
            return NONE;
        }
        return switch (what) {
            case 0 -> bears(now, span);
            case 1 -> load(now, span);
            case 2 -> bitsOf(now.span, span);
            case 3 -> bitsOf(now.where, span);
            default -> NONE;
        };
    }

    int tells(int s, int what) {
        if (noSleeper(s) || !now.asleep[s] || what < 0 || what > 1) {
            return -100;
        }
        return what == 0 ? held(lawOf("wakes", now, s), 0, 100) : held(lawOf("deepens", now, s), -9, 9);
    }

    int dreams(int span) {
        return noSpan(span) ? NONE : dreamers(now, span);
    }

    boolean send(int c) {
        if (noCrosser(c) || now.where[c] != HOME) {
            return false;
        }
        remember();
        now.where[c] = SENT;
        return true;
    }

    boolean lay(int s, int span) {
        if (noSleeper(s) || noSpan(span) || now.span[s] == span) {
            return false;
        }
        remember();
        now.span[s] = span;
        return true;
    }

    int lull(int s) {
        if (noSleeper(s)) {
            return NONE;
        }
        if (now.asleep[s] || now.hour >= text.dawn) {
            return -2;
        }
        remember();
        now.asleep[s] = true;
        now.depth[s] = Math.max(0, now.depth[s] - 9);
        return now.depth[s];
    }

    int hours(int n) {
        if (n < 0 || n > 24) {
            return NONE;
        }
        if (n != 0) {
            remember();
            now = in(now, n, false, text.seed);
        }
        return now.hour;
    }

    int night() {
        remember();
        layDown(now);
        for (int c = 0; c < now.where.length; c++) {
            if (isOnSpan(now.where[c])) {
                now.where[c] = FALLEN;
            } else if (now.where[c] != FALLEN) {
                now.where[c] = HOME;
            }
        }
        now.nights++;
        return now.nights;
    }

    boolean undo() {
        if (past.isEmpty()) {
            return false;
        }
        now = past.removeLast();
        return true;
    }

    int then(int n, boolean quiet, int what, int which) {
        if (n < 0 || n > 99 || what < 0 || what > 5 || what == 0 && noCrosser(which) || what == 1 && noSpan(which)) {
            return -100;
        }
        State state = in(now, n, quiet, text.seed);
        return switch (what) {
            case 0 -> state.where[which];
            case 1 -> bears(state, which);
            case 2 -> Integer.bitCount(bits(state.asleep));
            case 3 -> state.tolls - now.tolls;
            case 4 -> Integer.bitCount(bitsOf(state.where, FALLEN));
            default -> least(state);
        };
    }

    int weakest(int sleeper) {
        if (sleeper != NONE && noSleeper(sleeper)) {
            return NONE;
        }
        int n = text.sleepers.size();
        int rows = 1;
        for (int s = 0; s < n; s++) {
            rows *= text.spans;
        }
        int best = -1;
        int[] bestRow = null;
        State state = now.copy();
        for (int row = 0; row < rows; row++) {
            int rest = row;
            for (int s = n - 1; s >= 0; s--) {
                state.span[s] = rest % text.spans;
                rest /= text.spans;
            }
            int least = least(state);
            if (least > best) {
                best = least;
                bestRow = state.span.clone();
            }
        }
        return sleeper == NONE ? best : bestRow[sleeper];
    }

    int better(int what) {
        if (what < 0 || what > 2) {
            return NONE;
        }
        int[] best = {-2, -2, least(now)};
        for (int s = 0; s < now.span.length; s++) {
            for (int span = 0; span < text.spans; span++) {
                State state = now.copy();
                state.span[s] = span;
                if (least(state) > best[2]) {
                    best = new int[] {s, span, least(state)};
                }
            }
        }
        return best[0] < 0 ? -2 : best[what];
    }

    private State withAsleep(State from, int set) {
        State state = from.copy();
        for (int s = 0; s < state.asleep.length; s++) {
            state.asleep[s] = (set >> s & 1) == 1 && state.hour < text.dawn;
        }
        return state;
    }

    int cheap(int load, int what) {
        if (load < 0 || load > 999 || what < 0 || what > 1) {
            return NONE;
        }
        int bestWages = -2;
        int bestSet = -2;
        for (int set = 0; set < 1 << now.asleep.length; set++) {
            if ((set & bits(now.asleep)) != set || least(withAsleep(now, set)) < load) {
                continue;
            }
            int wages = 0;
            for (int s = 0; s < now.asleep.length; s++) {
                wages += (set >> s & 1) * text.sleepers.get(s).wage();
            }
            if (bestSet < 0 || wages < bestWages) {
                bestWages = wages;
                bestSet = set;
            }
        }
        return what == 0 ? bestWages : bestSet;
    }

    int order(int i) {
        List<Integer> home = new ArrayList<>();
        for (int c = 0; c < now.where.length; c++) {
            if (now.where[c] == HOME) {
                home.add(c);
            }
        }
        if (i < NONE || i >= home.size()) {
            return NONE;
        }
        List<List<Integer>> orders = new ArrayList<>();
        allOrders(home, new ArrayList<>(), orders);
        int best = -1;
        List<Integer> bestOrder = null;
        for (List<Integer> order : orders) {
            State state = now.copy();
            for (int n = 0; n < 20; n++) {
                if (n < order.size()) {
                    state.where[order.get(n)] = SENT;
                }
                hour(state, true, text.seed);
            }
            if (state.tolls - now.tolls > best) {
                best = state.tolls - now.tolls;
                bestOrder = order;
            }
        }
        return i == NONE ? best : bestOrder.get(i);
    }

    private static void allOrders(List<Integer> left, List<Integer> begun, List<List<Integer>> orders) {
        if (left.isEmpty()) {
            orders.add(begun);
        }
        for (Integer one : left) {
            List<Integer> fewer = new ArrayList<>(left);
            fewer.remove(one);
            List<Integer> more = new ArrayList<>(begun);
            more.add(one);
            allOrders(fewer, more, orders);
        }
    }

    int soon(int c) {
        if (noCrosser(c)) {
            return NONE;
        }
        if (now.where[c] != HOME) {
            return -2;
        }
        State state = now.copy();
        state.where[c] = SENT;
        for (int n = 1; n <= 99; n++) {
            hour(state, true, text.seed);
            if (state.where[c] == OVER) {
                return n;
            }
        }
        return -2;
    }

    int start(int c) {
        if (noCrosser(c)) {
            return NONE;
        }
        if (now.where[c] != HOME) {
            return -2;
        }
        for (int wait = 40; wait >= 0; wait--) {
            State state = in(now, wait, true, text.seed);
            state.where[c] = SENT;
            for (int n = 0; n < 200; n++) {
                hour(state, true, text.seed);
                if (state.where[c] == OVER && state.hour <= text.dawn) {
                    return wait;
                }
            }
        }
        return -2;
    }

    int missed(int what) {
        if (what < 0 || what > 1) {
            return NONE;
        }
        int[] best = {-2, -2};
        for (int s = 0; s < now.asleep.length; s++) {
            if (now.asleep[s]) {
                int least = least(withAsleep(now, bits(now.asleep) - (1 << s)));
                if (best[0] < 0 || least < best[1]) {
                    best = new int[] {s, least};
                }
            }
        }
        return best[what];
    }

    int year(int c, int n, int s) {
        if (noCrosser(c) || n < 0 || n > 99 || s < 1 || s > 20) {
            return NONE;
        }
        int overs = 0;
        for (int seed = text.seed; seed < text.seed + s; seed++) {
            State state = now.copy();
            state.where[c] = state.where[c] == HOME ? SENT : state.where[c];
            overs += in(state, n, false, seed).where[c] == OVER ? 1 : 0;
        }
        return overs;
    }

    int tell(int span, int bears) {
        if (noSpan(span) || bears < 0 || bears > 999 || told.size() == 20) {
            return NONE;
        }
        told.add(new Told(span, bears));
        return told.size() - 1;
    }

    int forget() {
        int size = told.size();
        told.clear();
        return size;
    }

    private List<Integer> awakeSets(int k) {
        List<Integer> sets = new ArrayList<>();
        int all = (1 << now.asleep.length) - 1;
        for (int set = 0; set <= all; set++) {
            State state = withAsleep(now, all - set);
            boolean so = true;
            for (Told one : told.subList(0, k)) {
                so &= bears(state, one.span()) == one.bears();
            }
            if (so) {
                sets.add(set);
            }
        }
        return sets;
    }

    int awake(int k, int i) {
        if (k < 0 || k > told.size() || i < NONE) {
            return NONE;
        }
        List<Integer> sets = awakeSets(k);
        return i == NONE ? sets.size() : i < sets.size() ? sets.get(i) : NONE;
    }

    int ask(int k) {
        if (k < 0 || k > told.size()) {
            return NONE;
        }
        List<Integer> sets = awakeSets(k);
        int best = -2;
        int fewest = Integer.MAX_VALUE;
        for (int span = 0; span < text.spans && !sets.isEmpty(); span++) {
            Map<Integer, Integer> left = new HashMap<>();
            for (int set : sets) {
                left.merge(bears(withAsleep(now, (1 << now.asleep.length) - 1 - set), span), 1, Integer::sum);
            }
            int worst = left.values().stream().max(Integer::compare).get();
            if (worst < fewest) {
                fewest = worst;
                best = span;
            }
        }
        return best;
    }

    boolean hold(int slot) {
        if (slot < 0 || slot > 2) {
            return false;
        }
        slots[slot] = now.copy();
        return true;
    }

    boolean restore(int slot) {
        if (slot < 0 || slot > 2 || slots[slot] == null) {
            return false;
        }
        now = slots[slot].copy();
        past.clear();
        return true;
    }

    int count(int what) {
        int allDreams = 0;
        for (int span = 0; span < text.spans; span++) {
            allDreams += dreamers(now, span);
        }
        return switch (what) {
            case 0 -> text.spans;
            case 1 -> text.sleepers.size();
            case 2 -> text.pairs.size();
            case 3 -> text.crossers.size();
            case 4 -> now.hour;
            case 5 -> now.nights;
            case 6 -> now.total;
            case 7 -> now.tolls;
            case 8 -> tape.size();
            case 9 -> past.size();
            case 10 -> told.size();
            case 11 -> (int) Arrays.stream(slots).filter(slot -> slot != null).count();
            case 12 -> bits(now.asleep);
            case 13 -> bitsOf(now.where, FALLEN);
            case 14 -> noise(now);
            case 15 -> text.sleepers.stream().mapToInt(Sleeper::wage).sum();
            case 16 -> allDreams;
            case 17 -> least(now);
            case 18 -> Arrays.stream(now.overs).sum();
            default -> NONE;
        };
    }
}
