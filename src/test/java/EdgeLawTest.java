/** Terms II at their edges: what laws tell, what is held and borne, and the lots. */
public final class EdgeLawTest {
    private static final Check CHECK = new Check();
    /** 32 bits that wrap: the least int there is, and one less than it, which is the most. */
    private static final String LEAST = "(2048 * 1024 * 1024)";
    private static final String MOST = "(2048 * 1024 * 1024 - 1)";

    public static void main(String[] args) {
        firstIf();
        wrapping();
        rounding();
        byZero();
        notLookedAt();
        ofItsOwn();
        spanAndBeside();
        hour();
        noise();
        load();
        heldTo99();
        whoIsAwake();
        bears();
        bonus();
        fromDawnOn();
        lots();
        lotsOfLaterHours();
        CHECK.end();
    }

    private static void holds(String law, int want) {
        SleepBridge x = Check.of("sleeper a 7 2 3 1; holds = " + law + ";");
        CHECK.due("holds = " + law, x.sleeper(0, 5), want);
    }

    private static void isLess(String one, String other, boolean want) {
        holds("if " + one + " < " + other + " then 1 else 2", want ? 1 : 2);
    }

    private static void firstIf() {
        CHECK.says("LAWS: the E of the first if that holds (one less than the other), else the last one;");
        isLess("4", "5", true);
        isLess("5", "5", false);
        isLess("6", "5", false);
        isLess("0 - 1", "0", true);
        isLess("0", "0 - 1", false);
        isLess("depth", "7", false);
        isLess("depth", "8", true);
        String[] tests = {"depth < 7", "depth < 8"};
        for (int set = 0; set < 16; set++) {
            StringBuilder law = new StringBuilder();
            int want = 5;
            for (int i = 0; i < 4; i++) {
                law.append("if ").append(tests[set >> i & 1]).append(" then ").append(i + 1).append(" else ");
                want = want == 5 && (set >> i & 1) == 1 ? i + 1 : want;
            }
            holds(law + "5", want);
        }
    }

    private static void wrapping() {
        CHECK.says("ints of 32 bits that wrap, / rounded towards 0;");
        isLess(LEAST, "0", true);
        isLess("0", MOST, true);
        isLess(LEAST, MOST, true);
        isLess(MOST, LEAST, false);
        isLess(MOST + " + 1", "0", true);
        isLess(LEAST + " - 1", "0", false);
        isLess(LEAST + " / (0 - 1)", "0", true);
        isLess(LEAST + " * (0 - 1)", "0", true);
        isLess("0 - " + LEAST, "0", true);
        isLess("0 - " + MOST, "0", true);
        holds(MOST + " + " + MOST + " + 9", 7);
        holds("4096 * 16 * 4096 * 16 + 8", 8);
        holds("4096 * 16 * 4096 * 17 / 4096 / 4096", 16);
        // 9999 * 9999 * 9999 is 999700029999, by 32 bits -1027349969
        isLess("9999 * 9999 * 9999", "0", true);
        holds("(0 - 9999 * 9999 * 9999) / 9999 / 1100", 93);
        holds("0 - 9999 * 9999 * 9999 - 1027 * 1000 * 1000 - 349 * 1000 - 969 + 5", 5);
        // 3 * 715827883 is 2147483649, two more than the most
        isLess("3 * (715 * 1000 * 1000 + 827 * 1000 + 883)", "0", true);
        isLess("3 * (715 * 1000 * 1000 + 827 * 1000 + 882)", "0", false);
    }

    private static void rounding() {
        CHECK.says("ints of 32 bits that wrap, / rounded towards 0;");
        holds("50 + 7 / 2", 53);
        holds("50 + (0 - 7) / 2", 47);
        holds("50 + 7 / (0 - 2)", 47);
        holds("50 + (0 - 7) / (0 - 2)", 53);
        holds("50 + (0 - 1) / 2", 50);
        holds("50 + 1 / (0 - 2)", 50);
        holds("50 + (0 - 8) / 2", 46);
        holds("50 + 1 / 9999", 50);
        holds("0 / 9999 + 3", 3);
        holds("9998 / 9999 + 3", 3);
        holds("9999 / 9999 + 3", 4);
    }

    private static void byZero() {
        CHECK.says("a LAW in which something that is looked at is divided by 0 is 0.");
        for (String zero : new String[] {"1 / 0", "0 / 0", "depth / (depth - 7)", "(0 - 1) / (hour)", LEAST + " / 0", "1 / (1 / 2)", "1 / noise"}) {
            holds(zero, 0);
            holds("9 + " + zero, 0);
            holds("9 - " + zero + " * 0", 0);
            holds("9 + 8 * (7 + (" + zero + "))", 0);
            holds("if " + zero + " < 1 then 5 else 6", 0);
            holds("if 1 < " + zero + " then 5 else 6", 0);
            holds("if 1 < 2 then " + zero + " else 6", 0);
            holds("if 2 < 1 then 5 else " + zero, 0);
            holds("if 2 < 1 then 5 else if " + zero + " < 1 then 6 else 7", 0);
        }
        SleepBridge x = Check.of("sleeper a 7 2 3 1; wakes = 100 + 1 / hour; deepens = 5 + 1 / hour; dawn 50;");
        CHECK.dueRow("wakes and deepens by 0", new int[] {x.tells(0, 0), x.tells(0, 1)}, 0, 0);
        x.hours(1);
        CHECK.dueRow("nothing happens by it", new int[] {x.count(12), x.sleeper(0, 0)}, 1, 7);
        CHECK.dueRow("an hour later it is something", new int[] {x.tells(0, 0), x.tells(0, 1)}, 100, 6);
    }

    private static void notLookedAt() {
        CHECK.says("a LAW in which something that is looked at is divided by 0 is 0.");
        holds("if 1 < 2 then 5 else 1 / 0", 5);
        holds("if 2 < 1 then 1 / 0 else 5", 5);
        holds("if 1 < 2 then 5 else if 1 / 0 < 1 then 6 else 7", 5);
        holds("if 1 < 2 then 5 else if 1 < 1 / 0 then 6 else 7", 5);
        holds("if 2 < 1 then 1 / 0 else if 1 < 2 then 6 else 1 / 0", 6);
        holds("if 2 < 1 then 1 / 0 else if 2 < 1 then 1 / 0 else 7", 7);
    }

    private static void ofItsOwn() {
        CHECK.says("For a SLEEPER: depth, weight, wage, which: its own, depth as it is;");
        String six = "sleeper a 10 9 1 0; sleeper b 20 8 2 1; sleeper c 30 7 3 2; sleeper d 40 6 4 0; sleeper e 50 5 5 1; sleeper f 60 4 0 2;";
        String[] words = {"depth", "weight", "wage", "which"};
        int[][] wants = {{10, 20, 30, 40, 50, 60}, {9, 8, 7, 6, 5, 4}, {1, 2, 3, 4, 5, 0}, {0, 1, 2, 3, 4, 5}};
        for (int i = 0; i < 4; i++) {
            SleepBridge x = Check.of(six + "holds = " + words[i] + "; wakes = " + words[i] + "; deepens = " + words[i] + ";");
            int[] held = new int[6];
            int[] wakes = new int[6];
            int[] deepens = new int[6];
            int[] most = new int[6];
            for (int s = 0; s < 6; s++) {
                held[s] = x.sleeper(s, 5);
                wakes[s] = x.tells(s, 0);
                deepens[s] = x.tells(s, 1);
                most[s] = Math.min(9, wants[i][s]);
            }
            CHECK.dueRow("holds = " + words[i], held, wants[i]);
            CHECK.dueRow("wakes = " + words[i], wakes, wants[i]);
            CHECK.dueRow("deepens = " + words[i], deepens, most);
        }
        SleepBridge x = Check.of("sleeper a 10 2 3 1; deepens = 4; dawn 50;");
        x.hours(3);
        CHECK.dueRow("depth as it is", new int[] {x.sleeper(0, 0), x.sleeper(0, 5), x.span(1, 0)}, 22, 22, 22);
    }

    private static void spanAndBeside() {
        CHECK.says("span: on which it is; beside: how many others are asleep on that; hour; noise: of all CROSSERS on the bridge; load: of all on its SPAN.");
        String six = "spans 5; sleeper a 1 1 0 0; sleeper b 1 0 0 0; sleeper c 1 0 0 0; sleeper d 1 0 0 0; sleeper e 1 0 0 0; sleeper f 1 0 0 4;";
        SleepBridge x = Check.of(six + "holds = span * 10 + beside; wakes = weight * 100;");
        CHECK.dueRow("five and one", held(x), 4, 4, 4, 4, 4, 40);
        x.lay(5, 0);
        CHECK.dueRow("six", held(x), 5, 5, 5, 5, 5, 5);
        x.lay(1, 4);
        x.lay(2, 3);
        CHECK.dueRow("four, one, one", held(x), 3, 40, 30, 3, 3, 3);
        x.hours(1);
        CHECK.dueRow("who is awake is not beside", held(x), 0, 40, 30, 2, 2, 2);
        x.lay(0, 4);
        CHECK.dueRow("wherever it is", held(x), 0, 40, 30, 2, 2, 2);
    }

    private static int[] held(SleepBridge x) {
        int[] held = new int[6];
        for (int s = 0; s < 6; s++) {
            held[s] = x.sleeper(s, 5);
        }
        return held;
    }

    private static void hour() {
        CHECK.says("span: on which it is; beside: how many others are asleep on that; hour; noise: of all CROSSERS on the bridge; load: of all on its SPAN.");
        SleepBridge x = Check.of("sleeper a 1 1 0 0; holds = hour; dawn 99;");
        CHECK.due("hour 0", x.sleeper(0, 5), 0);
        x.hours(24);
        CHECK.due("hour 24", x.sleeper(0, 5), 24);
        x.night();
        CHECK.due("hour 0 of the second night", x.sleeper(0, 5), 0);
        x.hours(5);
        CHECK.dueRow("hour 5 of it, not all hours", new int[] {x.sleeper(0, 5), x.count(6)}, 5, 29);
        CHECK.due("hour 98", x.then(93, true, 1, 0), 98);
    }

    private static void noise() {
        CHECK.says("span: on which it is; beside: how many others are asleep on that; hour; noise: of all CROSSERS on the bridge; load: of all on its SPAN.");
        SleepBridge x = Check.of("spans 5; sleeper a 1 0 0 0; sleeper b 1 0 0 1; sleeper c 1 0 0 2; sleeper d 1 0 0 3; sleeper e 1 0 0 4;"
                + "crosser p 1 7 0; crosser q 1 2 0; holds = 50; deepens = noise; dawn 50;");
        CHECK.due("at home", x.tells(4, 1), 0);
        x.send(0);
        CHECK.due("sent", x.tells(4, 1), 0);
        for (int span = 0; span < 5; span++) {
            x.hours(1);
            CHECK.dueRow("on span " + span, new int[] {x.crosser(0, 3), x.tells(0, 1), x.tells(4, 1), x.count(14)}, span, 7, 7, 7);
        }
        x.send(1);
        x.hours(1);
        CHECK.dueRow("p is over, q on span 0", new int[] {x.crosser(0, 3), x.crosser(1, 3), x.tells(4, 1), x.count(14)}, 9, 0, 2, 2);
        x.night();
        CHECK.dueRow("q has fallen", new int[] {x.crosser(0, 3), x.crosser(1, 3), x.tells(4, 1), x.count(14)}, -2, 10, 0, 0);
        x.undo();
        x.undo();
        CHECK.dueRow("p on span 4, q sent", new int[] {x.crosser(0, 3), x.crosser(1, 3), x.tells(0, 1)}, 4, -3, 7);
        x = Check.of("spans 2; sleeper a 1 0 0 0; sleeper b 1 0 0 1; crosser p 1 7 0; crosser q 1 2 0; holds = 50; deepens = noise; dawn 50;");
        x.send(0);
        x.hours(1);
        x.send(1);
        x.hours(1);
        CHECK.dueRow("both, on two spans", new int[] {x.crosser(0, 3), x.crosser(1, 3), x.tells(0, 1), x.tells(1, 1), x.count(14)}, 1, 0, 9, 9, 9);
    }

    private static void load() {
        CHECK.says("span: on which it is; beside: how many others are asleep on that; hour; noise: of all CROSSERS on the bridge; load: of all on its SPAN.");
        SleepBridge x = Check.of("spans 2; sleeper a 1 0 0 0; sleeper b 1 0 0 1; crosser p 5 0 0; crosser q 3 0 0; crosser r 1 0 0; holds = 50; deepens = load; dawn 50;");
        x.send(0);
        CHECK.dueRow("sent", new int[] {x.tells(0, 1), x.tells(1, 1)}, 0, 0);
        x.hours(1);
        CHECK.dueRow("p on span 0", new int[] {x.tells(0, 1), x.tells(1, 1)}, 5, 0);
        x.send(1);
        x.send(2);
        x.hours(1);
        CHECK.dueRow("q and r on span 0, p on 1", new int[] {x.tells(0, 1), x.tells(1, 1)}, 4, 5);
        x.lay(0, 1);
        CHECK.dueRow("a laid to span 1", new int[] {x.tells(0, 1), x.tells(1, 1)}, 5, 5);
        x.lay(0, 0);
        x.hours(1);
        CHECK.dueRow("p is over", new int[] {x.tells(0, 1), x.tells(1, 1), x.crosser(0, 3)}, 0, 4, 9);
        x.night();
        CHECK.dueRow("all at home or fallen", new int[] {x.tells(0, 1), x.tells(1, 1), x.count(13)}, 0, 0, 6);
    }

    private static void heldTo99() {
        CHECK.says("A SLEEPER that is asleep HOLDS what the LAW tells, held to 0 .. 99; who is awake, 0.");
        holds("0 - 9999", 0);
        holds("0 - 1", 0);
        holds("0", 0);
        holds("1", 1);
        holds("98", 98);
        holds("99", 99);
        holds("100", 99);
        holds("9999", 99);
        holds(LEAST, 0);
        holds(MOST, 99);
        SleepBridge x = Check.of("sleeper a 7 0 0 1; sleeper b 7 0 0 1; holds = if which < 1 then 0 - 50 else 60;");
        CHECK.due("each is held, not their sum", x.span(1, 0), 60);
        x = Check.of("sleeper a 7 0 0 1; sleeper b 7 0 0 1; holds = if which < 1 then 150 else 60;");
        CHECK.due("each is held, not their sum", x.span(1, 0), 159);
    }

    private static void whoIsAwake() {
        CHECK.says("A SLEEPER that is asleep HOLDS what the LAW tells, held to 0 .. 99; who is awake, 0.");
        SleepBridge x = Check.of("sleeper a 7 1 0 1; sleeper b 8 0 0 1; wakes = weight * 100; holds = 40 + depth;");
        CHECK.dueRow("asleep", new int[] {x.sleeper(0, 5), x.sleeper(1, 5), x.span(1, 0)}, 47, 48, 95);
        x.hours(1);
        CHECK.dueRow("a is awake", new int[] {x.sleeper(0, 5), x.sleeper(1, 5), x.span(1, 0)}, 0, 48, 48);
        x.lull(0);
        CHECK.dueRow("a is lulled", new int[] {x.sleeper(0, 5), x.sleeper(1, 5), x.span(1, 0)}, 40, 48, 88);
    }

    private static void bears() {
        CHECK.says("A SPAN BEARS what all on it HOLD, and BONUS for each PAIR of which both are asleep on it.");
        String six = "spans 1; sleeper a 99 0 0 0; sleeper b 99 0 0 0; sleeper c 99 0 0 0; sleeper d 99 0 0 0; sleeper e 99 0 0 0; sleeper f 99 0 0 0;";
        String pairs = "pair a b; pair b c; pair c d; pair d e; pair e f; pair f a;";
        SleepBridge x = Check.of(six + pairs + "bonus 99;");
        CHECK.dueRow("the most a span can bear", new int[] {x.span(0, 0), x.count(17), x.then(0, true, 1, 0), x.weakest(-1)}, 1188, 1188, 1188, 1188);
        x = Check.of(six + pairs + "bonus 0;");
        CHECK.due("without a bonus", x.span(0, 0), 594);
        x = Check.of("spans 5;");
        CHECK.dueRow("nobody is on it", new int[] {x.span(0, 0), x.span(4, 0)}, 0, 0);
        x = Check.of("sleeper a 5 0 0 0; sleeper b 6 0 0 1; sleeper c 7 0 0 0;");
        CHECK.dueRow("only who is on it", new int[] {x.span(0, 0), x.span(1, 0), x.span(2, 0)}, 12, 6, 0);
    }

    private static void bonus() {
        CHECK.says("A SPAN BEARS what all on it HOLD, and BONUS for each PAIR of which both are asleep on it.");
        SleepBridge x = Check.of("sleeper a 10 0 0 0; sleeper b 10 1 0 0; sleeper c 10 0 0 1; pair a b; pair b c; pair a c; bonus 3; wakes = weight * 100; dawn 9;");
        CHECK.dueRow("a and b", new int[] {x.span(0, 0), x.span(1, 0), x.dreams(0), x.dreams(1)}, 23, 10, 1, 0);
        x.lay(2, 0);
        CHECK.dueRow("all three", new int[] {x.span(0, 0), x.span(1, 0), x.dreams(0)}, 39, 0, 3);
        x.hours(1);
        CHECK.dueRow("b is awake: a and c are left", new int[] {x.span(0, 0), x.dreams(0)}, 23, 1);
        x.lay(0, 2);
        CHECK.dueRow("on two spans", new int[] {x.span(0, 0), x.span(2, 0), x.count(16)}, 10, 10, 0);
        // who holds nothing dreams all the same
        x = Check.of("sleeper a 0 0 0 0; sleeper b 0 0 0 0; pair a b; bonus 3;");
        CHECK.due("no depth", x.span(0, 0), 3);
    }

    private static void fromDawnOn() {
        CHECK.says("From DAWN on nobody is asleep.");
        SleepBridge x = Check.of("sleeper a 10 0 0 0; sleeper b 10 0 0 0; pair a b; dawn 3;");
        x.hours(2);
        CHECK.dueRow("an hour ahead", new int[] {x.count(4), x.count(12), x.span(0, 0), x.dreams(0), x.sleeper(1, 4)}, 2, 3, 25, 1, 1);
        x.hours(1);
        CHECK.dueRow("at dawn", new int[] {x.count(4), x.count(12), x.span(0, 0), x.dreams(0), x.sleeper(1, 4), x.sleeper(1, 5), x.tells(1, 0)},
                3, 0, 0, 0, 0, 0, -100);
        x.hours(24);
        CHECK.dueRow("later", new int[] {x.count(4), x.count(12), x.span(0, 0), x.then(99, true, 2, 0), x.then(99, false, 2, 0)}, 27, 0, 0, 0, 0);
        x = Check.of("sleeper a 10 0 0 0; dawn 0;");
        CHECK.dueRow("dawn 0", new int[] {x.count(12), x.sleeper(0, 4), x.span(0, 0), x.tells(0, 1), x.night(), x.count(12), x.lull(0)}, 0, 0, 0, -100, 2, 0, -2);
        x = Check.of("sleeper a 10 0 0 0; dawn 1;");
        CHECK.dueRow("dawn 1", new int[] {x.count(12), x.hours(1), x.count(12), x.night(), x.count(12)}, 1, 1, 0, 2, 1);
        x = Check.of("sleeper a 10 0 0 0; dawn 99;");
        CHECK.dueRow("dawn 99", new int[] {x.then(98, true, 2, 0), x.then(99, true, 2, 0)}, 1, 0);
    }

    private static final String SIX = "sleeper a 5 0 0 0; sleeper b 5 0 0 0; sleeper c 5 0 0 0; sleeper d 5 0 0 0; sleeper e 5 0 0 0; sleeper f 5 0 0 0; dawn 99;";

    /** Who has this lot stays by as many of 100, and wakes by one more. */
    private static void lot(SleepBridge stays, SleepBridge wakes, int s, String what) {
        stays.hours(1);
        wakes.hours(1);
        CHECK.dueRow(what, new int[] {stays.sleeper(s, 4), wakes.sleeper(s, 4)}, 1, 0);
    }

    private static void lots() {
        CHECK.says("LOT n of a SEED and a which: h is the SEED; for each of 93, which: h becomes (h and it, each bit of which is in just one)"
                + " times 1103515245 and 12345 more, then h and h moved 15 bits down (zeros come in), likewise; the rest of h,"
                + " moved 1 bit down likewise, by n (32 bits that wrap).");
        int[] seeds = {0, 1, 266, 9999};
        int[][] lots = {{86, 26, 66, 51, 50, 1}, {53, 52, 99, 17, 28, 28}, {0, 44, 69, 16, 29, 99}, {98, 91, 51, 69, 7, 30}};
        for (int i = 0; i < seeds.length; i++) {
            for (int s = 0; s < 6; s++) {
                String text = SIX + "seed " + seeds[i] + "; wakes = ";
                lot(Check.of(text + lots[i][s] + ";"), Check.of(text + (lots[i][s] + 1) + ";"), s, "seed " + seeds[i] + ", sleeper " + s);
            }
        }
    }

    private static void lotsOfLaterHours() {
        CHECK.says("LOT n of a SEED and a which: h is the SEED; for each of 93, which: h becomes (h and it, each bit of which is in just one)"
                + " times 1103515245 and 12345 more, then h and h moved 15 bits down (zeros come in), likewise; the rest of h,"
                + " moved 1 bit down likewise, by n (32 bits that wrap).");
        int[][] seed0 = {{86, 89, 93, 43, 3, 36}, {15, 80, 28, 88, 96, 7}, {44, 23, 15, 9, 81, 2}};
        int[][] seed9999 = {{99, 50, 50, 2, 7, 13}, {24, 73, 33, 2, 20, 4}, {84, 32, 52, 51, 77, 95}};
        for (int h = 1; h <= 3; h++) {
            for (int s = 0; s < 6; s++) {
                for (int seed : new int[] {0, 9999}) {
                    int lot = (seed == 0 ? seed0 : seed9999)[h - 1][s];
                    String text = SIX + "seed " + seed + "; wakes = if hour < " + h + " then 0 else ";
                    SleepBridge stays = Check.of(text + lot + ";");
                    SleepBridge wakes = Check.of(text + (lot + 1) + ";");
                    stays.hours(h);
                    wakes.hours(h);
                    lot(stays, wakes, s, "seed " + seed + ", hour " + h + ", sleeper " + s);
                }
            }
        }
    }
}
