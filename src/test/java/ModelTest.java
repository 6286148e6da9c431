import java.nio.charset.StandardCharsets;
import java.util.ArrayList;
import java.util.Arrays;
import java.util.List;
import java.util.Random;

/** Runs of calls by seeds, each asked of the class and of the model: all promises at once. */
public final class ModelTest {
    private static final int RUNS = 1500;
    private static final int CALLS = 150;
    /** An object is good for 512 calls: behind these a text of a hundred feeds and the last counts have room. */
    private static final int MOST_TOLD = 380;
    private static final int[] FAR = {Integer.MIN_VALUE, Integer.MIN_VALUE + 1, -100, 31, 32, 33, 1000, 65536, Integer.MAX_VALUE - 1, Integer.MAX_VALUE};

    private final Check check = new Check();
    private final Random random;
    private final RandomTexts texts;
    private final SleepBridge bridge = new SleepBridge();
    private final BridgeModel model = new BridgeModel();
    private final List<String> told = new ArrayList<>();

    private ModelTest(long seed) {
        random = new Random(seed);
        texts = new RandomTexts(random);
    }

    public static void main(String[] args) {
        int runs = args.length > 0 ? Integer.parseInt(args[0]) : RUNS;
        int first = args.length > 1 ? Integer.parseInt(args[1]) : 0;
        for (int seed = first; seed < first + runs; seed++) {
            ModelTest test = new ModelTest(seed);
            test.run();
            if (test.check.wrong() > 0) {
                System.out.println("run " + seed + ":\n" + String.join("\n", test.told));
                System.exit(1);
            }
        }
        System.out.println(runs + " runs are as the model has them");
    }

    private void run() {
        if (random.nextInt(10) > 0) {
            readBoth(soundOne());
        }
        for (int i = 0; i < CALLS && told.size() < MOST_TOLD && check.wrong() == 0; i++) {
            callBoth();
        }
        for (int what = -1; what <= 19 && check.wrong() == 0; what++) {
            due("count(" + what + ")", bridge.count(what), model.count(what));
        }
    }

    private String soundOne() {
        return random.nextBoolean() ? texts.sound() : texts.lively();
    }

    private void due(String call, long got, long want) {
        told.add(call + " -> " + want);
        check.due(call, got, want);
    }

    private void due(String call, boolean got, boolean want) {
        due(call, got ? 1 : 0, want ? 1 : 0);
    }

    private void feedBoth(String text) {
        byte[] bytes = text.getBytes(StandardCharsets.ISO_8859_1);
        int whole = (bytes.length + 19) / 20 * 20;
        byte[] padded = Arrays.copyOf(bytes, whole);
        for (int i = 0; i < whole; i += 20) {
            int[] f = new int[5];
            for (int j = 0; j < 5; j++) {
                f[j] = Check.four(padded, i + 4 * j);
            }
            due("feed", bridge.feed(f[0], f[1], f[2], f[3], f[4]), model.feed(f[0], f[1], f[2], f[3], f[4]));
        }
        due("back(" + (whole - bytes.length) + ")", bridge.back(whole - bytes.length), model.back(whole - bytes.length));
    }

    private void readBoth(String text) {
        told.add("text: " + text);
        feedBoth(text);
        due("read()", bridge.read(), model.read());
        due("place()", bridge.place(), model.place());
    }

    /** Mostly a number that there is, sometimes one beside, or one far off. */
    private int upTo(int most) {
        if (random.nextInt(100) == 0) {
            return FAR[random.nextInt(FAR.length)];
        }
        return random.nextInt(8) == 0 ? random.nextInt(most + 4) - 2 : random.nextInt(most + 1);
    }

    private int sleeper() {
        return upTo(Math.max(0, model.count(1) - 1));
    }

    private int crosser() {
        return upTo(Math.max(0, model.count(3) - 1));
    }

    private int span() {
        return upTo(model.count(0) - 1);
    }

    private void callBoth() {
        switch (random.nextInt(14)) {
            case 0, 1, 2 -> callDeeds();
            case 3, 4 -> callMore();
            case 5 -> callSlots();
            case 6, 7 -> callTold();
            case 8, 9 -> callPlans();
            case 10 -> callAhead();
            case 11 -> callTape();
            default -> callState();
        }
    }

    private void callDeeds() {
        int s = sleeper();
        int c = crosser();
        int span = span();
        int n = random.nextInt(4) == 0 ? upTo(24) : random.nextInt(3);
        switch (random.nextInt(8)) {
            case 0, 1 -> due("send(" + c + ")", bridge.send(c), model.send(c));
            case 2 -> due("lay(" + s + ", " + span + ")", bridge.lay(s, span), model.lay(s, span));
            case 3 -> due("lull(" + s + ")", bridge.lull(s), model.lull(s));
            case 4 -> {
                if (random.nextInt(3) == 0) {
                    due("night()", bridge.night(), model.night());
                }
            }
            default -> due("hours(" + n + ")", bridge.hours(n), model.hours(n));
        }
    }

    private void callMore() {
        int s = sleeper();
        int c = crosser();
        if (random.nextInt(3) == 0) {
            due("undo()", bridge.undo(), model.undo());
        } else if (random.nextBoolean()) {
            due("lull(" + s + ")", bridge.lull(s), model.lull(s));
        } else {
            due("send(" + c + ")", bridge.send(c), model.send(c));
        }
    }

    private void callSlots() {
        int slot = upTo(2);
        if (random.nextBoolean()) {
            due("hold(" + slot + ")", bridge.hold(slot), model.hold(slot));
        } else {
            due("restore(" + slot + ")", bridge.restore(slot), model.restore(slot));
        }
    }

    private void callTold() {
        int span = span();
        int bears = random.nextInt(3) == 0 ? upTo(999) : Math.max(0, model.span(span, 0));
        int k = upTo(model.count(10));
        int i = random.nextInt(6) - 2;
        switch (random.nextInt(6)) {
            case 0, 1 -> due("tell(" + span + ", " + bears + ")", bridge.tell(span, bears), model.tell(span, bears));
            case 2 -> due("ask(" + k + ")", bridge.ask(k), model.ask(k));
            case 3 -> {
                if (random.nextInt(3) == 0) {
                    due("forget()", bridge.forget(), model.forget());
                }
            }
            default -> due("awake(" + k + ", " + i + ")", bridge.awake(k, i), model.awake(k, i));
        }
    }

    private void callPlans() {
        int s = sleeper();
        int c = crosser();
        int what = upTo(2);
        int load = random.nextInt(3) == 0 ? upTo(999) : random.nextInt(30);
        int i = random.nextInt(7) - 2;
        switch (random.nextInt(9)) {
            case 0 -> {
                if (Math.pow(model.count(0), model.count(1)) < 700 || random.nextInt(20) == 0) {
                    int one = random.nextInt(3) == 0 ? -1 : s;
                    due("weakest(" + one + ")", bridge.weakest(one), model.weakest(one));
                }
            }
            case 1 -> due("better(" + what + ")", bridge.better(what), model.better(what));
            case 2, 3 -> due("cheap(" + load + ", " + what + ")", bridge.cheap(load, what), model.cheap(load, what));
            case 4 -> due("order(" + i + ")", bridge.order(i), model.order(i));
            case 5 -> due("soon(" + c + ")", bridge.soon(c), model.soon(c));
            case 6 -> due("start(" + c + ")", bridge.start(c), model.start(c));
            default -> due("missed(" + what + ")", bridge.missed(what), model.missed(what));
        }
    }

    private void callAhead() {
        int c = crosser();
        int n = random.nextBoolean() ? upTo(99) : random.nextInt(12);
        int s = 1 + upTo(19);
        int what = upTo(5);
        int which = what == 0 ? c : span();
        boolean quiet = random.nextBoolean();
        if (random.nextInt(3) == 0) {
            due("year(" + c + ", " + n + ", " + s + ")", bridge.year(c, n, s), model.year(c, n, s));
        } else {
            due("then(" + n + ", " + quiet + ", " + what + ", " + which + ")", bridge.then(n, quiet, what, which),
                    model.then(n, quiet, what, which));
        }
    }

    private void callTape() {
        int n = random.nextInt(30) - 3;
        int a = random.nextInt();
        switch (random.nextInt(12)) {
            case 0 -> due("back(" + n + ")", bridge.back(n), model.back(n));
            case 1 -> due("feed(" + a + ", ...)", bridge.feed(a, a + 1, a + 2, a + 3, a + 4), model.feed(a, a + 1, a + 2, a + 3, a + 4));
            case 2 -> readBoth(soundOne());
            case 3 -> readBoth(texts.unsound());
            case 4 -> readBoth(texts.misnamed());
            case 5 -> readBoth(texts.crowded());
            default -> due("place()", bridge.place(), model.place());
        }
    }

    private void callState() {
        int s = sleeper();
        int c = crosser();
        int span = span();
        int what = upTo(5);
        int counted = upTo(18);
        switch (random.nextInt(6)) {
            case 0 -> due("sleeper(" + s + ", " + what + ")", bridge.sleeper(s, what), model.sleeper(s, what));
            case 1 -> due("crosser(" + c + ", " + what + ")", bridge.crosser(c, what), model.crosser(c, what));
            case 2 -> due("span(" + span + ", " + what + ")", bridge.span(span, what), model.span(span, what));
            case 3 -> due("tells(" + s + ", " + what % 3 + ")", bridge.tells(s, what % 3), model.tells(s, what % 3));
            case 4 -> due("dreams(" + span + ")", bridge.dreams(span), model.dreams(span));
            default -> due("count(" + counted + ")", bridge.count(counted), model.count(counted));
        }
    }
}
