import java.util.ArrayList;
import java.util.List;

/** A refused call, and a call that only asks, changes nothing that other calls show; nor does a text with a fault. */
public final class EdgeRefusedTest {
    private static final Check CHECK = new Check();
    private static final int MOST = Integer.MAX_VALUE;
    private static final int LEAST = Integer.MIN_VALUE;
    private static final String TEXT = "spans 3;sleeper a 30 1 2 0;sleeper b 25 0 4 0;sleeper c 40 0 6 1;sleeper d 35 0 1 2;pair a b;pair c d;crosser p 6 2 11;"
            + "crosser q 3 1 5;crosser r 99 9 99;crosser s 1 1 7;crosser t 2 1 8;bonus 4;dawn 30;seed 7;holds=depth-noise;"
            + "wakes=if hour<1 then weight*100 else 3;deepens=1;";
    private static final String[] FAULTY = {"spans 1; sleeper q 1 1 1 0; crosser r 1 1 1; holds = 7; wakes = 8; deepens = 9; bonus 9; dawn 9; seed 9; !",
        "spans 2; holds = (((((((1)))))));", "sleeper a 1 1 1 1; sleeper a 1 1 1 1;", "sleeper a 1 1 1 1; pair a b;", "spans 6;", "spans 1; sleeper a 1 1 1 1;", "spans"};
    private static final String[] SOUND = {"", "spans 5;", TEXT, "dawn 0; sleeper a 9 1 1 0;",
        "sleeper a 9 1 1 0; sleeper b 8 1 1 0; sleeper c 7 1 1 0; sleeper d 6 1 1 0; sleeper e 5 1 1 1; sleeper f 4 1 1 2; pair a b; pair c d; wakes = 52;",
        "spans 5; sleeper c 9 1 1 0; sleeper d 8 1 1 4; crosser b 3 2 1; pair d c;", "crosser a 1 1 1; crosser b 1 1 1; seed 5; bonus 0; dawn 1; holds = 1; deepens = 2; wakes = 3;"};
    private static final Twins RICH = new Twins(CHECK, EdgeRefusedTest::rich);

    public static void main(String[] args) {
        itIsRich();
        feedRefused();
        backRefused();
        faults();
        soundText();
        textBehindTexts();
        sendRefused();
        layRefused();
        lullRefused();
        hoursRefused();
        undoRefused();
        tellRefused();
        slotsRefused();
        answersOnly();
        noSuchAnswers();
        whatWouldBe();
        toldAnswers();
        atDawn();
        CHECK.end();
    }

    /** One crosser each fallen, on a span, sent, over and at home; a awake; things to undo, two slots held, two told, a text on the tape. */
    private static SleepBridge rich() {
        SleepBridge x = Check.of(TEXT);
        x.send(0);
        x.hours(1);
        x.night();
        x.hold(0);
        x.send(3);
        x.hours(4);
        x.send(1);
        x.hours(1);
        x.send(2);
        x.lay(3, 1);
        x.hold(2);
        x.tell(2, 0);
        x.tell(0, 33);
        x.lay(3, 2);
        Check.feed(x, "spans 2;sleeper z 7 1 1 1;");
        return x;
    }

    private static void itIsRich() {
        SleepBridge x = rich();
        CHECK.dueRow("where", new int[] {x.crosser(0, 3), x.crosser(1, 3), x.crosser(2, 3), x.crosser(3, 3), x.crosser(4, 3)}, 10, 0, -3, 9, -2);
        CHECK.dueRow("who is awake, things, told, slots, tape", new int[] {x.sleeper(0, 4), x.sleeper(2, 4), x.count(9), x.count(10), x.count(11), x.count(8)},
                0, 1, 10, 2, 2, 26);
    }

    private static SleepBridge fullTape() {
        SleepBridge x = Check.of("spans 2; sleeper a 9 0 0 1;");
        Check.feed(x, "spans 5;" + " ".repeat(1973));
        return x;
    }

    private static void feedRefused() {
        CHECK.says("NONE, and nothing comes, if it would have more than 2,000.");
        new Twins(CHECK, EdgeRefusedTest::fullTape).unchanged("feed of a full tape", x -> x.feed(-1, -1, -1, -1, -1), -1);
    }

    private static void backRefused() {
        CHECK.says("NONE, and nothing goes, if it has not so many, or n is below 0.");
        for (int n : new int[] {27, 2000, MOST, -1, -26, LEAST}) {
            RICH.unchanged("back(" + n + ")", x -> x.back(n), -1);
        }
        RICH.unchanged("back(0)", x -> x.back(0), 26);
    }

    private static void faults() {
        CHECK.says("A text with a FAULT changes nothing but the tape;");
        int[] due = {1, 2, 3, 4, 5, 5, 1};
        for (int i = 0; i < FAULTY.length; i++) {
            String text = FAULTY[i];
            int fault = due[i];
            RICH.alike("a fault of " + text, x -> x.back(26), x -> {
                x.back(26);
                CHECK.due("read of " + text, Check.read(x, text), fault);
                return 0;
            }, false);
        }
    }

    private static void soundText() {
        CHECK.says("else it is in place of the one ahead: hour 0, all asleep, no CROSSER sent, no TOLL; nothing can be undone, nothing is TOLD, SLOTS hold nothing.");
        SleepBridge x = rich();
        CHECK.dueRow("ahead", new int[] {x.count(4), x.count(5), x.count(6), x.count(7), x.count(9), x.count(10), x.count(11), x.count(18)}, 5, 2, 6, 7, 10, 2, 2, 1);
        CHECK.due("read", x.read(), 0);
        CHECK.dueRow("behind", new int[] {x.count(4), x.count(5), x.count(6), x.count(7), x.count(9), x.count(10), x.count(11), x.count(18)}, 0, 1, 0, 0, 0, 0, 0, 0);
        CHECK.dueRow("by the text that was on the tape", new int[] {x.count(0), x.count(1), x.count(2), x.count(3), x.count(12), x.count(13), x.sleeper(0, 0)}, 2, 1, 0, 0, 1, 0, 7);
        CHECK.dueRow("nothing to undo, nothing held", new int[] {Check.bit(x.undo()), Check.bit(x.restore(0)), Check.bit(x.restore(2))}, 0, 0, 0);
        for (String text : SOUND) {
            SleepBridge old = rich();
            old.back(26);
            CHECK.due("read of " + text, Check.read(old, text), 0);
            CHECK.due("as new: " + text, Twins.picture(old, true).equals(pictureOf(text)), true);
        }
    }

    private static List<Integer> pictureOf(String text) {
        SleepBridge fresh = new SleepBridge();
        CHECK.due("read of " + text, Check.read(fresh, text), 0);
        return Twins.picture(fresh, true);
    }

    /** Nothing of the texts ahead is left, nor of those ahead of them, with a fault or not: all is as with a new object. */
    private static void textBehindTexts() {
        CHECK.says("else it is in place of the one ahead: hour 0, all asleep, no CROSSER sent, no TOLL; nothing can be undone, nothing is TOLD, SLOTS hold nothing.");
        List<String> ahead = new ArrayList<>(List.of(SOUND));
        ahead.addAll(List.of(FAULTY));
        for (String text : SOUND) {
            List<Integer> due = pictureOf(text);
            for (String first : ahead) {
                for (String second : ahead) {
                    SleepBridge x = new SleepBridge();
                    Check.read(x, first);
                    Check.read(x, second);
                    CHECK.due("read of " + text, Check.read(x, text), 0);
                    CHECK.due("as new: " + text + " behind " + first + " and " + second, Twins.picture(x, true).equals(due), true);
                }
            }
        }
    }

    private static void sendRefused() {
        CHECK.says("SENT: true; false, and nothing happens: it is not at home, no such one.");
        for (int crosser : new int[] {0, 1, 2, 3, 5, -1, MOST, LEAST}) {
            RICH.unchanged("send(" + crosser + ")", x -> Check.bit(x.send(crosser)), 0);
        }
    }

    private static void layRefused() {
        CHECK.says("LAID to another SPAN: true; false, and nothing happens: it is there, no such ones.");
        int[][] rows = {{0, 0}, {1, 0}, {2, 1}, {3, 2}, {0, 3}, {0, -1}, {4, 1}, {-1, 1}, {MOST, 1}, {0, LEAST}};
        for (int[] row : rows) {
            RICH.unchanged("lay(" + row[0] + ", " + row[1] + ")", x -> Check.bit(x.lay(row[0], row[1])), 0);
        }
    }

    private static void lullRefused() {
        CHECK.says("LULLED: DEPTH then; -2, and nothing happens: it is asleep, it is DAWN; NONE: no such one.");
        RICH.unchanged("lull of who is asleep", x -> x.lull(2), -2);
        for (int sleeper : new int[] {4, -1, MOST, LEAST}) {
            RICH.unchanged("lull(" + sleeper + ")", x -> x.lull(sleeper), -1);
        }
    }

    private static void hoursRefused() {
        CHECK.says("n HOURS (0 .. 24; 0 is no thing done) go by: the hour of the night then; NONE, and nothing happens: no such n.");
        for (int n : new int[] {-1, 25, MOST, LEAST}) {
            RICH.unchanged("hours(" + n + ")", x -> x.hours(n), -1);
        }
        RICH.unchanged("hours(0)", x -> x.hours(0), 5);
    }

    private static SleepBridge undone() {
        SleepBridge x = rich();
        for (int i = 0; i < 10; i++) {
            x.undo();
        }
        return x;
    }

    private static void undoRefused() {
        CHECK.says("The last thing done (send, lay, lull, hours, night) is undone: true; false: there is none (the last 40 can be).");
        new Twins(CHECK, EdgeRefusedTest::undone).unchanged("undo of nothing", x -> Check.bit(x.undo()), 0);
        new Twins(CHECK, () -> Check.of(TEXT)).unchanged("undo of nothing", x -> Check.bit(x.undo()), 0);
    }

    private static SleepBridge allTold() {
        SleepBridge x = rich();
        for (int i = 2; i < 20; i++) {
            x.tell(1, i);
        }
        return x;
    }

    private static void tellRefused() {
        CHECK.says("It is TOLD: its number; NONE, and nothing happens: 20 are there, no such ones.");
        int[][] rows = {{3, 0}, {-1, 0}, {MOST, 0}, {LEAST, 0}, {0, -1}, {0, 1000}, {0, MOST}, {0, LEAST}};
        for (int[] row : rows) {
            RICH.unchanged("tell(" + row[0] + ", " + row[1] + ")", x -> x.tell(row[0], row[1]), -1);
        }
        new Twins(CHECK, EdgeRefusedTest::allTold).unchanged("a 21st", x -> x.tell(2, 0), -1);
        new Twins(CHECK, () -> Check.of(TEXT)).unchanged("forget of nothing", x -> x.forget(), 0);
    }

    private static void slotsRefused() {
        CHECK.says("All that goes on (not what is TOLD, nor the tape) is held in a SLOT (0 .. 2): true; false: no such one.");
        for (int slot : new int[] {-1, 3, MOST, LEAST}) {
            RICH.unchanged("hold(" + slot + ")", x -> Check.bit(x.hold(slot)), 0);
        }
        CHECK.says("It goes on from what a SLOT holds (that stays there; nothing can be undone then): true; false, and nothing happens: no such one, nothing is held.");
        for (int slot : new int[] {-1, 1, 3, MOST, LEAST}) {
            RICH.unchanged("restore(" + slot + ")", x -> Check.bit(x.restore(slot)), 0);
        }
    }

    private static void answersOnly() {
        CHECK.says("Nothing is promised beyond the answers and state changes described above, and nothing about an object after its 512th call.");
        RICH.unchanged("place", x -> x.place(), -1);
        RICH.unchanged("sleeper", x -> x.sleeper(2, 5), 44);
        RICH.unchanged("crosser", x -> x.crosser(3, 4), 1);
        RICH.unchanged("span", x -> x.span(1, 0), 44);
        RICH.unchanged("tells", x -> x.tells(2, 1), 1);
        RICH.unchanged("dreams", x -> x.dreams(1), 0);
        RICH.unchanged("count", x -> x.count(17), 29);
    }

    private static void noSuchAnswers() {
        CHECK.says("Of a SLEEPER: what 0 DEPTH, 1 WEIGHT, 2 WAGE, 3 its SPAN, 4: 1 asleep, else 0, 5 what it HOLDS now. NONE for others.");
        RICH.unchanged("sleeper of none", x -> x.sleeper(4, 5), -1);
        RICH.unchanged("crosser of none", x -> x.crosser(5, 3), -1);
        RICH.unchanged("span of none", x -> x.span(3, 0), -1);
        RICH.unchanged("tells of none", x -> x.tells(4, 0), -100);
        RICH.unchanged("dreams of none", x -> x.dreams(3), -1);
        RICH.unchanged("count of none", x -> x.count(19), -1);
        RICH.unchanged("then of none", x -> x.then(9, false, 0, 5), -100);
        RICH.unchanged("then of none", x -> x.then(100, false, 2, 5), -100);
        RICH.unchanged("weakest of none", x -> x.weakest(4), -1);
        RICH.unchanged("better of none", x -> x.better(3), -1);
        RICH.unchanged("cheap of none", x -> x.cheap(1000, 0), -1);
        RICH.unchanged("order of none", x -> x.order(1), -1);
        RICH.unchanged("soon of none", x -> x.soon(5), -1);
        RICH.unchanged("start of none", x -> x.start(5), -1);
        RICH.unchanged("missed of none", x -> x.missed(2), -1);
        RICH.unchanged("year of none", x -> x.year(4, 9, 21), -1);
        RICH.unchanged("awake of none", x -> x.awake(3, -1), -1);
        RICH.unchanged("ask of none", x -> x.ask(3), -1);
    }

    private static void whatWouldBe() {
        CHECK.says("What would be (nothing happens).");
        RICH.unchanged("then by lots", x -> x.then(9, false, 0, 3), 9);
        RICH.unchanged("then, quiet", x -> x.then(99, true, 2, 0), 0);
        RICH.unchanged("weakest", x -> x.weakest(-1), 29);
        RICH.unchanged("weakest of one", x -> x.weakest(3), 2);
        RICH.unchanged("better", x -> x.better(0), -2);
        RICH.unchanged("cheap", x -> x.cheap(20, 1), 14);
        RICH.unchanged("order", x -> x.order(-1), 13);
        RICH.unchanged("order of one", x -> x.order(0), 4);
        RICH.unchanged("soon", x -> x.soon(4), 4);
        RICH.unchanged("soon of who is not at home", x -> x.soon(3), -2);
        RICH.unchanged("start", x -> x.start(4), 20);
        RICH.unchanged("missed", x -> x.missed(0), 1);
        RICH.unchanged("year", x -> x.year(4, 0, 20), 0);
        RICH.unchanged("year of who is over", x -> x.year(3, 50, 20), 20);
    }

    private static void toldAnswers() {
        CHECK.says("KNOWN by k: the first k.");
        RICH.unchanged("awake", x -> x.awake(0, -1), 16);
        RICH.unchanged("awake of one", x -> x.awake(0, 15), 15);
        RICH.unchanged("awake as known", x -> x.awake(1, -1), 8);
        RICH.unchanged("ask", x -> x.ask(1), 0);
    }

    private static SleepBridge morning() {
        SleepBridge x = rich();
        x.hours(24);
        x.hours(1);
        return x;
    }

    private static void atDawn() {
        CHECK.says("LULLED: DEPTH then; -2, and nothing happens: it is asleep, it is DAWN; NONE: no such one.");
        Twins twins = new Twins(CHECK, EdgeRefusedTest::morning);
        for (int sleeper = 0; sleeper < 4; sleeper++) {
            int one = sleeper;
            twins.unchanged("lull(" + sleeper + ") at dawn", x -> x.lull(one), -2);
        }
        twins.unchanged("missed at dawn", x -> x.missed(0), -2);
        twins.unchanged("ask at dawn", x -> x.ask(0), 0);
    }
}
