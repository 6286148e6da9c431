/** Promises 6 to 10 and 32 at their edges: what there is, and what there is not. */
public final class EdgeStateTest {
    private static final Check CHECK = new Check();
    private static final int MOST = Integer.MAX_VALUE;
    private static final int LEAST = Integer.MIN_VALUE;
    private static final int[] FAR = {-1, -2, -100, 7, 31, 32, 33, 64, 1000, 65536, LEAST, LEAST + 1, MOST - 1, MOST};
    private static final String FULL = "spans 5; sleeper a 11 1 2 0; sleeper b 12 2 3 1; sleeper c 13 3 4 2; sleeper d 14 4 5 3; sleeper e 15 5 6 4; sleeper f 16 6 7 4;"
            + "pair a b; pair e f; crosser p 1 2 3; crosser q 4 5 6; crosser r 7 8 9; crosser s 10 9 11; crosser t 12 1 13; dawn 30;";

    public static void main(String[] args) {
        sleepers();
        sleepersAwake();
        crossers();
        crossersWhere();
        spans();
        spansWithAll();
        tells();
        tellsOfWhoIsAwake();
        dreams();
        countsOfNothing();
        countsOfAll();
        countsOnTheWay();
        CHECK.end();
    }

    private static void sleepers() {
        CHECK.says("Of a SLEEPER: what 0 DEPTH, 1 WEIGHT, 2 WAGE, 3 its SPAN, 4: 1 asleep, else 0, 5 what it HOLDS now. NONE for others.");
        SleepBridge x = Check.of(FULL);
        for (int s = 0; s < 6; s++) {
            int[] got = new int[8];
            for (int what = -1; what <= 6; what++) {
                got[what + 1] = x.sleeper(s, what);
            }
            CHECK.dueRow("sleeper " + s, got, -1, 11 + s, 1 + s, 2 + s, Math.min(4, s), 1, 11 + s, -1);
        }
        for (int what = 0; what < 6; what++) {
            CHECK.dueRow("no such sleeper", new int[] {x.sleeper(-1, what), x.sleeper(6, what)}, -1, -1);
        }
        for (int far : FAR) {
            CHECK.dueRow("far off " + far, new int[] {x.sleeper(far, 0), x.sleeper(0, far), x.sleeper(far, far), x.sleeper(far, 5)}, -1, -1, -1, -1);
        }
        x = Check.of("sleeper a 5 6 7 2;");
        CHECK.dueRow("one", new int[] {x.sleeper(0, 0), x.sleeper(1, 0), x.sleeper(-1, 0)}, 5, -1, -1);
    }

    private static void sleepersAwake() {
        CHECK.says("Of a SLEEPER: what 0 DEPTH, 1 WEIGHT, 2 WAGE, 3 its SPAN, 4: 1 asleep, else 0, 5 what it HOLDS now. NONE for others.");
        SleepBridge x = Check.of("sleeper a 20 1 7 2; sleeper b 20 0 8 1; wakes = weight * 100; deepens = 3; holds = depth + hour; dawn 3;");
        x.hours(1);
        CHECK.dueRow("a woke", new int[] {x.sleeper(0, 0), x.sleeper(0, 1), x.sleeper(0, 2), x.sleeper(0, 3), x.sleeper(0, 4), x.sleeper(0, 5)}, 20, 1, 7, 2, 0, 0);
        CHECK.dueRow("b sleeps", new int[] {x.sleeper(1, 0), x.sleeper(1, 1), x.sleeper(1, 2), x.sleeper(1, 3), x.sleeper(1, 4), x.sleeper(1, 5)}, 23, 0, 8, 1, 1, 24);
        x.hours(2);
        CHECK.dueRow("b at dawn", new int[] {x.sleeper(1, 0), x.sleeper(1, 3), x.sleeper(1, 4), x.sleeper(1, 5)}, 29, 1, 0, 0);
    }

    private static void crossers() {
        CHECK.says("Of a CROSSER: what 0 LOAD, 1 NOISE, 2 TOLL, 3 where it is (-2 at home, -3 SENT, 0 .. 4 its SPAN, 9 OVER, 10 FALLEN), 4 how often it was OVER."
                + " NONE for others.");
        SleepBridge x = Check.of(FULL);
        int[][] rows = {{1, 2, 3}, {4, 5, 6}, {7, 8, 9}, {10, 9, 11}, {12, 1, 13}};
        for (int c = 0; c < 5; c++) {
            int[] got = new int[7];
            for (int what = -1; what <= 5; what++) {
                got[what + 1] = x.crosser(c, what);
            }
            CHECK.dueRow("crosser " + c, got, -1, rows[c][0], rows[c][1], rows[c][2], -2, 0, -1);
        }
        for (int what = 0; what < 5; what++) {
            CHECK.dueRow("no such crosser", new int[] {x.crosser(-1, what), x.crosser(5, what)}, -1, -1);
        }
        for (int far : FAR) {
            CHECK.dueRow("far off " + far, new int[] {x.crosser(far, 0), x.crosser(0, far), x.crosser(far, far), x.crosser(far, 3)}, -1, -1, -1, -1);
        }
        x = Check.of("crosser p 1 2 3;");
        CHECK.dueRow("one", new int[] {x.crosser(0, 0), x.crosser(1, 0), x.crosser(-1, 0)}, 1, -1, -1);
    }

    private static void crossersWhere() {
        CHECK.says("Of a CROSSER: what 0 LOAD, 1 NOISE, 2 TOLL, 3 where it is (-2 at home, -3 SENT, 0 .. 4 its SPAN, 9 OVER, 10 FALLEN), 4 how often it was OVER."
                + " NONE for others.");
        SleepBridge x = Check.of(FULL);
        int[] where = {-2, -3, 0, 1, 2, 3, 4, 9};
        for (int night = 0; night < 3; night++) {
            for (int i = 0; i < where.length; i++) {
                CHECK.dueRow("where, how often over", new int[] {x.crosser(0, 3), x.crosser(0, 4)}, where[i], i == 7 ? night + 1 : night);
                if (i == 0) {
                    x.send(0);
                } else if (i < 7) {
                    x.hours(1);
                }
            }
            x.night();
        }
        x.send(0);
        x.hours(5);
        x.night();
        CHECK.dueRow("fallen, over three times", new int[] {x.crosser(0, 3), x.crosser(0, 4), x.crosser(1, 4)}, 10, 3, 0);
        x.undo();
        x.hours(1);
        CHECK.dueRow("over four times", new int[] {x.crosser(0, 3), x.crosser(0, 4), x.count(18)}, 9, 4, 4);
    }

    private static void spans() {
        CHECK.says("Of a SPAN: what 0 what it BEARS now, 1 the LOAD on it, 2 SLEEPERS on it (bits), 3 CROSSERS on it (bits). NONE for others.");
        SleepBridge x = Check.of(FULL);
        int[] bears = {11, 12, 13, 14, 15 + 16 + 5};
        int[] who = {1, 2, 4, 8, 48};
        for (int span = 0; span < 5; span++) {
            int[] got = new int[6];
            for (int what = -1; what <= 4; what++) {
                got[what + 1] = x.span(span, what);
            }
            CHECK.dueRow("span " + span, got, -1, bears[span], 0, who[span], 0, -1);
        }
        for (int what = 0; what < 4; what++) {
            CHECK.dueRow("no such span", new int[] {x.span(-1, what), x.span(5, what)}, -1, -1);
        }
        for (int far : FAR) {
            CHECK.dueRow("far off " + far, new int[] {x.span(far, 0), x.span(0, far), x.span(far, far), x.span(far, 3)}, -1, -1, -1, -1);
        }
        for (int spans = 1; spans <= 5; spans++) {
            x = Check.of("spans " + spans + ";");
            CHECK.dueRow("the last and none behind", new int[] {x.span(spans - 1, 1), x.span(spans, 1)}, 0, -1);
        }
    }

    private static void spansWithAll() {
        CHECK.says("Of a SPAN: what 0 what it BEARS now, 1 the LOAD on it, 2 SLEEPERS on it (bits), 3 CROSSERS on it (bits). NONE for others.");
        SleepBridge x = Check.of("spans 2; sleeper a 90 1 0 1; sleeper b 90 0 0 1; sleeper c 90 0 0 1; sleeper d 90 0 0 1; sleeper e 90 0 0 1; sleeper f 90 0 0 1;"
                + "crosser p 0 1 1; crosser q 0 1 1; crosser r 0 1 1; crosser s 0 1 1; crosser t 0 1 1; wakes = weight * 100;");
        CHECK.dueRow("all sleepers", new int[] {x.span(0, 0), x.span(0, 2), x.span(1, 0), x.span(1, 2)}, 0, 0, 540, 63);
        for (int c = 0; c < 5; c++) {
            x.send(c);
        }
        CHECK.dueRow("who waits is on none", new int[] {x.span(0, 3), x.span(1, 3)}, 0, 0);
        x.hours(1);
        CHECK.dueRow("all crossers", new int[] {x.span(0, 3), x.span(0, 1), x.span(1, 3), x.span(1, 0), x.span(1, 2)}, 31, 0, 0, 450, 63);
        x.hours(1);
        CHECK.dueRow("all on span 1", new int[] {x.span(0, 3), x.span(1, 3)}, 0, 31);
        x.hours(1);
        CHECK.dueRow("who is over is on none", new int[] {x.span(0, 3), x.span(1, 3)}, 0, 0);
        x = Check.of("spans 2; sleeper a 90 0 0 0; crosser p 90 1 1; crosser q 0 1 1; dawn 9;");
        x.send(0);
        x.send(1);
        x.hours(1);
        CHECK.dueRow("the load of both", new int[] {x.span(0, 1), x.span(0, 3), x.span(1, 1)}, 90, 3, 0);
        x.night();
        CHECK.dueRow("who has fallen is on none", new int[] {x.span(0, 1), x.span(0, 3)}, 0, 0);
    }

    private static void tells() {
        CHECK.says("What a LAW tells of a SLEEPER that is asleep: what 0 WAKES (of 100), 1 DEEPENS; -100: awake, no such ones.");
        SleepBridge x = Check.of(FULL + "wakes = depth + 60; deepens = weight - 4;");
        for (int s = 0; s < 6; s++) {
            CHECK.dueRow("sleeper " + s, new int[] {x.tells(s, -1), x.tells(s, 0), x.tells(s, 1), x.tells(s, 2)}, -100, 71 + s, s - 3, -100);
        }
        CHECK.dueRow("no such ones", new int[] {x.tells(6, 0), x.tells(6, 1), x.tells(-1, 0), x.tells(-1, 1)}, -100, -100, -100, -100);
        for (int far : FAR) {
            CHECK.dueRow("far off " + far, new int[] {x.tells(far, 0), x.tells(0, far), x.tells(far, far), x.tells(far, 1)}, -100, -100, -100, -100);
        }
    }

    private static void tellsOfWhoIsAwake() {
        CHECK.says("What a LAW tells of a SLEEPER that is asleep: what 0 WAKES (of 100), 1 DEEPENS; -100: awake, no such ones.");
        SleepBridge x = Check.of("sleeper a 20 1 7 2; sleeper b 20 0 8 1; wakes = weight * 100; deepens = 3; dawn 3;");
        CHECK.dueRow("asleep", new int[] {x.tells(0, 0), x.tells(0, 1), x.tells(1, 0), x.tells(1, 1)}, 100, 3, 0, 3);
        x.hours(1);
        CHECK.dueRow("a is awake", new int[] {x.tells(0, 0), x.tells(0, 1), x.tells(1, 0), x.tells(1, 1)}, -100, -100, 0, 3);
        x.lull(0);
        CHECK.dueRow("a is lulled", new int[] {x.tells(0, 0), x.tells(0, 1)}, 100, 3);
        x.hours(2);
        CHECK.dueRow("dawn", new int[] {x.tells(0, 0), x.tells(1, 0), x.tells(1, 1), x.tells(2, 0)}, -100, -100, -100, -100);
    }

    private static void dreams() {
        CHECK.says("How many PAIRS of which both are asleep on a SPAN; NONE: no such one.");
        SleepBridge x = Check.of(FULL);
        CHECK.dueRow("dreams", new int[] {x.dreams(-1), x.dreams(0), x.dreams(1), x.dreams(3), x.dreams(4), x.dreams(5)}, -1, 0, 0, 0, 1, -1);
        for (int far : FAR) {
            CHECK.due("no such span " + far, x.dreams(far), -1);
        }
        x.lay(0, 1);
        CHECK.dueRow("a laid to b", new int[] {x.dreams(0), x.dreams(1), x.dreams(4), x.count(16)}, 0, 1, 1, 2);
        x.hours(24);
        x.hours(6);
        CHECK.dueRow("dawn", new int[] {x.dreams(1), x.dreams(4), x.dreams(5), x.count(16)}, 0, 0, -1, 0);
        x = Check.of("sleeper a 1 1 1 0; sleeper b 1 0 1 0; pair a b; wakes = weight * 100;");
        x.hours(1);
        CHECK.due("a alone is awake", x.dreams(0), 0);
        x = Check.of("sleeper a 1 0 1 0; sleeper b 1 1 1 0; pair a b; wakes = weight * 100;");
        x.hours(1);
        CHECK.due("b alone is awake", x.dreams(0), 0);
        CHECK.due("no pairs", Check.of("sleeper a 1 0 1 0; sleeper b 1 1 1 0;").dreams(0), 0);
    }

    private static int[] counts(SleepBridge x) {
        int[] counts = new int[19];
        for (int what = 0; what < 19; what++) {
            counts[what] = x.count(what);
        }
        return counts;
    }

    private static void countsOfNothing() {
        CHECK.says("0 SPANS, 1 SLEEPERS, 2 PAIRS, 3 CROSSERS, 4 the hour, 5 nights, 6 all HOURS so far, 7 TOLLS, 8 bytes on the tape, 9 things that can be undone,"
                + " 10 TOLD ones, 11 SLOTS that hold something, 12 who is asleep (bits), 13 FALLEN CROSSERS (bits), 14 NOISE on the bridge, 15 WAGES of all,"
                + " 16 PAIRS that dream on all SPANS, 17 the least that a SPAN BEARS now, 18 how often CROSSERS were OVER. NONE for others.");
        SleepBridge x = new SleepBridge();
        CHECK.dueRow("of a new object", counts(x), 3, 0, 0, 0, 0, 1, 0, 0, 0, 0, 0, 0, 0, 0, 0, 0, 0, 0, 0);
        CHECK.dueRow("-1 and 19", new int[] {x.count(-1), x.count(19)}, -1, -1);
        for (int far : new int[] {-2, -100, 20, 31, 32, 64, 1000, 65536, LEAST, LEAST + 1, LEAST + 17, MOST - 1, MOST}) {
            CHECK.due("count(" + far + ")", x.count(far), -1);
        }
    }

    private static void countsOfAll() {
        CHECK.says("0 SPANS, 1 SLEEPERS, 2 PAIRS, 3 CROSSERS, 4 the hour, 5 nights, 6 all HOURS so far, 7 TOLLS, 8 bytes on the tape, 9 things that can be undone,"
                + " 10 TOLD ones, 11 SLOTS that hold something, 12 who is asleep (bits), 13 FALLEN CROSSERS (bits), 14 NOISE on the bridge, 15 WAGES of all,"
                + " 16 PAIRS that dream on all SPANS, 17 the least that a SPAN BEARS now, 18 how often CROSSERS were OVER. NONE for others.");
        SleepBridge x = Check.of(FULL);
        CHECK.dueRow("at first", counts(x), 5, 6, 2, 5, 0, 1, 0, 0, 0, 0, 0, 0, 63, 0, 0, 27, 1, 11, 0);
        for (int i = 0; i < 100; i++) {
            x.feed(0, 0, 0, 0, 0);
        }
        for (int i = 0; i < 41; i++) {
            x.night();
        }
        for (int i = 0; i < 20; i++) {
            x.tell(0, 0);
        }
        x.hold(0);
        x.hold(1);
        x.hold(2);
        CHECK.dueRow("all that can be full", counts(x), 5, 6, 2, 5, 0, 42, 0, 0, 2000, 40, 20, 3, 63, 0, 0, 27, 1, 11, 0);
    }

    private static void countsOnTheWay() {
        CHECK.says("0 SPANS, 1 SLEEPERS, 2 PAIRS, 3 CROSSERS, 4 the hour, 5 nights, 6 all HOURS so far, 7 TOLLS, 8 bytes on the tape, 9 things that can be undone,"
                + " 10 TOLD ones, 11 SLOTS that hold something, 12 who is asleep (bits), 13 FALLEN CROSSERS (bits), 14 NOISE on the bridge, 15 WAGES of all,"
                + " 16 PAIRS that dream on all SPANS, 17 the least that a SPAN BEARS now, 18 how often CROSSERS were OVER. NONE for others.");
        SleepBridge x = Check.of("spans 2; sleeper a 20 1 9 0; sleeper b 30 0 8 0; sleeper c 40 0 7 1; pair a b; pair c a; crosser p 5 3 10; crosser q 5 4 20; crosser r 99 9 99;"
                + "wakes = if hour < 1 then 0 else weight * 100; dawn 9;");
        x.send(0);
        x.send(2);
        x.hours(1);
        CHECK.dueRow("p on span 0", counts(x), 2, 3, 2, 3, 1, 1, 1, 0, 0, 3, 0, 0, 7, 0, 3, 24, 1, 40, 0);
        x.send(1);
        x.hours(1);
        CHECK.dueRow("p on span 1, q on 0, a awake", counts(x), 2, 3, 2, 3, 2, 1, 2, 0, 0, 5, 0, 0, 6, 0, 7, 24, 0, 30, 0);
        x.hours(1);
        CHECK.dueRow("p is over", counts(x), 2, 3, 2, 3, 3, 1, 3, 10, 0, 6, 0, 0, 6, 0, 4, 24, 0, 30, 1);
        x.night();
        CHECK.dueRow("q has fallen", counts(x), 2, 3, 2, 3, 0, 2, 3, 10, 0, 7, 0, 0, 7, 2, 0, 24, 1, 40, 1);
        x.lay(0, 1);
        x.send(0);
        x.hours(3);
        CHECK.dueRow("p is over again", counts(x), 2, 3, 2, 3, 3, 2, 6, 20, 0, 10, 0, 0, 6, 2, 0, 24, 0, 30, 2);
        x.hours(24);
        CHECK.dueRow("behind dawn", counts(x), 2, 3, 2, 3, 27, 2, 30, 20, 0, 11, 0, 0, 0, 2, 0, 24, 0, 0, 2);
    }
}
