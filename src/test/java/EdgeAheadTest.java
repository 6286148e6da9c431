/** Terms III and promises 17, 21 to 23 and 25 at their edges: what would be in hours to come. */
public final class EdgeAheadTest {
    private static final Check CHECK = new Check();
    private static final int MOST = Integer.MAX_VALUE;
    private static final int LEAST = Integer.MIN_VALUE;
    private static final int[] FAR = {-2, -3, -99, -101, 100, 127, 128, 1000, 65536, LEAST, LEAST + 1, MOST - 1, MOST};

    public static void main(String[] args) {
        inHours();
        inNoHours();
        quiet();
        thenWrong();
        thenWhich();
        orderOfNobody();
        orderIsAsked();
        orderBehind20();
        orderOneAnHour();
        orderOfAll();
        orderQuiet();
        soon();
        soonNot();
        soonLate();
        start();
        startNot();
        startMost();
        startNobodyElse();
        yearAsked();
        yearBySeeds();
        yearFromAnywhere();
        CHECK.end();
    }

    private static void inHours() {
        CHECK.says("IN n HOURS (0 .. 99): where a CROSSER is, what a SPAN BEARS, how many SLEEPERS are asleep, TOLLS, how many have FALLEN.");
        SleepBridge x = Check.of("spans 2; sleeper a 10 0 0 0; sleeper b 20 0 0 1; crosser p 5 1 7; crosser q 5 1 9; deepens = 1; dawn 99;");
        x.send(0);
        int[] where = {-3, 0, 1, 9};
        for (int n = 0; n < 4; n++) {
            CHECK.dueRow("in " + n, new int[] {x.then(n, false, 0, 0), x.then(n, false, 1, 0), x.then(n, false, 1, 1), x.then(n, false, 2, 0), x.then(n, false, 3, 0),
                x.then(n, false, 4, 0), x.then(n, false, 5, 0)}, where[n], 10 + n, 20 + n, 2, n == 3 ? 7 : 0, 0, 10 + n);
        }
        CHECK.dueRow("in 98", new int[] {x.then(98, false, 0, 0), x.then(98, false, 1, 1), x.then(98, false, 2, 0), x.then(98, false, 5, 0)}, 9, 99, 2, 99);
        CHECK.dueRow("in 99, which is dawn", new int[] {x.then(99, false, 0, 0), x.then(99, false, 1, 1), x.then(99, false, 2, 0), x.then(99, false, 5, 0)}, 9, 0, 0, 0);
        // p is on span 0 at dawn
        x = Check.of("spans 2; sleeper a 10 0 0 0; crosser p 5 1 7; crosser q 5 1 9; dawn 3;");
        x.send(0);
        x.send(1);
        CHECK.dueRow("fallen by then", new int[] {x.then(2, false, 4, 0), x.then(3, false, 4, 0), x.then(99, false, 4, 0), x.then(3, false, 0, 1)}, 0, 2, 2, 10);
        x.hours(3);
        CHECK.dueRow("who has fallen already counts", new int[] {x.then(0, false, 4, 0), x.then(1, true, 4, 0)}, 2, 2);
    }

    private static void inNoHours() {
        CHECK.says("IN n HOURS (0 .. 99): where a CROSSER is, what a SPAN BEARS, how many SLEEPERS are asleep, TOLLS, how many have FALLEN.");
        SleepBridge x = Check.of("spans 1; sleeper a 10 0 0 0; crosser p 5 1 7; crosser q 5 1 9; dawn 9;");
        x.send(0);
        x.hours(2);
        x.send(1);
        CHECK.dueRow("tolls more, not all", new int[] {x.count(7), x.then(0, false, 3, 0), x.then(1, false, 3, 0), x.then(2, false, 3, 0)}, 7, 0, 0, 9);
        CHECK.dueRow("as it is", new int[] {x.then(0, true, 0, 0), x.then(0, true, 0, 1), x.then(0, true, 1, 0), x.then(0, true, 2, 0), x.then(0, true, 5, 0)}, 9, -3, 10, 1, 10);
        x.hours(1);
        x.night();
        CHECK.dueRow("at home, fallen", new int[] {x.then(0, true, 0, 0), x.then(0, true, 0, 1), x.then(0, true, 4, 0), x.then(5, true, 0, 0)}, -2, 10, 1, -2);
    }

    private static void quiet() {
        CHECK.says("QUIET: likewise, if nobody wakes by a LOT.");
        SleepBridge x = Check.of("spans 1; sleeper a 10 0 0 0; sleeper b 20 1 0 0; wakes = weight * 100; deepens = 1; dawn 5;");
        CHECK.dueRow("by lots", new int[] {x.then(0, false, 2, 0), x.then(1, false, 2, 0), x.then(4, false, 2, 0), x.then(4, false, 1, 0)}, 2, 1, 1, 14);
        CHECK.dueRow("quiet", new int[] {x.then(0, true, 2, 0), x.then(1, true, 2, 0), x.then(4, true, 2, 0), x.then(4, true, 1, 0)}, 2, 2, 2, 38);
        CHECK.dueRow("at dawn all wake, which is no lot", new int[] {x.then(5, true, 2, 0), x.then(5, true, 1, 0)}, 0, 0);
        x.hours(1);
        CHECK.dueRow("who is awake stays so", new int[] {x.then(0, true, 2, 0), x.then(3, true, 2, 0), x.then(3, true, 1, 0)}, 1, 1, 14);
    }

    private static void thenWrong() {
        CHECK.says("IN n HOURS (quiet: QUIET): what 0 where a CROSSER is (which: it; as for crosser()), 1 what a SPAN BEARS (which: it), 2 how many are asleep,"
                + " 3 TOLLS more, 4 how many have FALLEN by then, 5 the least that a SPAN BEARS; -100: no such ones (which looked at for 0 and 1).");
        SleepBridge x = Check.of("spans 2; sleeper a 10 0 0 0; sleeper b 10 0 0 1; crosser p 5 1 7; crosser q 5 1 9; dawn 99;");
        int[] due = {-2, 10, 2, 0, 0, 10};
        for (int what = 0; what < 6; what++) {
            CHECK.dueRow("n for what " + what, new int[] {x.then(-1, true, what, 0), x.then(0, true, what, 0), x.then(98, true, what, 0), x.then(100, true, what, 0),
                x.then(-1, false, what, 0), x.then(100, false, what, 0)}, -100, due[what], due[what], -100, -100, -100);
        }
        for (int far : FAR) {
            CHECK.dueRow("far off " + far, new int[] {x.then(far, true, 2, 0), x.then(0, true, far, 0), x.then(far, false, far, far), x.then(0, true, 0, far),
                x.then(0, true, 1, far)}, -100, -100, -100, -100, -100);
        }
        CHECK.dueRow("what -1 and 6", new int[] {x.then(0, true, -1, 0), x.then(0, true, 6, 0), x.then(99, false, -1, 0), x.then(99, false, 6, 0)}, -100, -100, -100, -100);
    }

    private static void thenWhich() {
        CHECK.says("IN n HOURS (quiet: QUIET): what 0 where a CROSSER is (which: it; as for crosser()), 1 what a SPAN BEARS (which: it), 2 how many are asleep,"
                + " 3 TOLLS more, 4 how many have FALLEN by then, 5 the least that a SPAN BEARS; -100: no such ones (which looked at for 0 and 1).");
        SleepBridge x = Check.of("spans 4; sleeper a 10 0 0 0; sleeper b 11 0 0 3; crosser p 0 1 7; crosser q 5 1 9; dawn 99;");
        CHECK.dueRow("crossers", new int[] {x.then(0, true, 0, -1), x.then(0, true, 0, 0), x.then(0, true, 0, 1), x.then(0, true, 0, 2)}, -100, -2, -2, -100);
        CHECK.dueRow("spans", new int[] {x.then(0, true, 1, -1), x.then(0, true, 1, 0), x.then(0, true, 1, 3), x.then(0, true, 1, 4)}, -100, 10, 11, -100);
        for (int far : FAR) {
            CHECK.dueRow("not looked at " + far, new int[] {x.then(3, true, 2, far), x.then(3, true, 3, far), x.then(3, true, 4, far), x.then(3, true, 5, far)}, 2, 0, 0, 0);
        }
        x = new SleepBridge();
        CHECK.dueRow("a new object", new int[] {x.then(0, true, 0, 0), x.then(0, true, 1, 2), x.then(0, true, 1, 3)}, -100, 0, -100);
        // the least is that of all spans, the last one too
        x = Check.of("spans 5; sleeper a 9 0 0 0; sleeper b 8 0 0 1; sleeper c 7 0 0 2; sleeper d 6 0 0 3; sleeper e 5 0 0 4;");
        CHECK.due("the last is the least", x.then(3, true, 5, 0), 5);
        x = Check.of("spans 5; sleeper a 4 0 0 0; sleeper b 8 0 0 1; sleeper c 7 0 0 2; sleeper d 6 0 0 3; sleeper e 5 0 0 4;");
        CHECK.due("the first is the least", x.then(3, true, 5, 0), 4);
    }

    private static int[] order(SleepBridge x, int n) {
        int[] row = new int[n + 3];
        for (int i = -2; i <= n; i++) {
            row[i + 2] = x.order(i);
        }
        return row;
    }

    private static void orderOfNobody() {
        CHECK.says("ORDER: TOLL paid from now on (i NONE), else the i-th CROSSER; NONE: not so many, i below NONE.");
        CHECK.dueRow("a new object", order(new SleepBridge(), 1), -1, 0, -1, -1);
        CHECK.dueRow("no crossers", order(Check.of("spans 1; sleeper a 9 0 0 0;"), 1), -1, 0, -1, -1);
        SleepBridge x = Check.of("spans 1; sleeper a 9 0 0 0; crosser p 5 0 3; crosser q 5 0 4; dawn 9;");
        x.send(0);
        x.send(1);
        CHECK.dueRow("nobody is at home: the toll of those on their way", order(x, 1), -1, 7, -1, -1);
        x.hours(3);
        CHECK.dueRow("all over: no more toll", order(x, 1), -1, 0, -1, -1);
        x.night();
        CHECK.dueRow("at home again", order(x, 2), -1, 7, 0, 1, -1);
    }

    private static void orderIsAsked() {
        CHECK.says("ORDER: TOLL paid from now on (i NONE), else the i-th CROSSER; NONE: not so many, i below NONE.");
        SleepBridge x = Check.of("spans 1; sleeper a 9 0 0 0; crosser p 5 0 1; crosser q 5 0 2; crosser r 5 0 4; crosser s 5 0 8; crosser t 5 0 16; dawn 20;");
        CHECK.dueRow("five", order(x, 5), -1, 31, 0, 1, 2, 3, 4, -1);
        for (int far : FAR) {
            CHECK.due("no such i " + far, x.order(far), -1);
        }
        x.send(2);
        CHECK.dueRow("four at home", order(x, 4), -1, 31, 0, 1, 3, 4, -1);
        x.send(0);
        x.send(4);
        x.send(1);
        CHECK.dueRow("one at home", order(x, 1), -1, 31, 3, -1);
    }

    private static void orderBehind20() {
        CHECK.says("ORDER of CROSSERS at home, one SENT ahead of each HOUR from now on, QUIET, all else as it goes, in the order in which most TOLL is paid"
                + " behind 20 HOURS; of alike ones the first by the first CROSSER, then the next one's.");
        // a bears as many as hours have gone: who weighs 19 goes on at 19 and is over at 20
        for (int load = 18; load <= 20; load++) {
            SleepBridge x = Check.of("spans 1; sleeper a 0 0 0 0; crosser p " + load + " 0 3; deepens = 1; dawn 99;");
            CHECK.dueRow("a load of " + load, order(x, 1), -1, load <= 19 ? 3 : 0, 0, -1);
            x.send(0);
            CHECK.dueRow("who is sent already, too", order(x, 0), -1, load <= 19 ? 3 : 0, -1);
        }
        SleepBridge x = Check.of("spans 1; sleeper a 0 0 0 0; crosser p 21 0 3; deepens = 1; dawn 99;");
        x.hours(1);
        CHECK.due("from now on: 20 more hours", x.order(-1), 0);
        x.hours(1);
        CHECK.due("from now on: 20 more hours", x.order(-1), 3);
    }

    private static void orderOneAnHour() {
        CHECK.says("ORDER of CROSSERS at home, one SENT ahead of each HOUR from now on, QUIET, all else as it goes, in the order in which most TOLL is paid"
                + " behind 20 HOURS; of alike ones the first by the first CROSSER, then the next one's.");
        // over behind two hours: by dawn 3 only the first that is sent, by dawn 4 two of them
        String text = "spans 1; sleeper a 90 0 0 0; crosser p 5 0 1; crosser q 5 0 2; crosser r 5 0 4; dawn ";
        CHECK.dueRow("dawn 2", order(Check.of(text + "2;"), 3), -1, 0, 0, 1, 2, -1);
        CHECK.dueRow("dawn 3", order(Check.of(text + "3;"), 3), -1, 4, 2, 0, 1, -1);
        CHECK.dueRow("dawn 4", order(Check.of(text + "4;"), 3), -1, 6, 1, 2, 0, -1);
        CHECK.dueRow("dawn 5", order(Check.of(text + "5;"), 3), -1, 7, 0, 1, 2, -1);
        SleepBridge x = Check.of(text + "4;");
        x.hours(1);
        CHECK.dueRow("an hour less", order(x, 3), -1, 4, 2, 0, 1, -1);
        x = Check.of(text + "4;");
        x.send(0);
        CHECK.dueRow("p is sent besides", order(x, 2), -1, 7, 1, 2, -1);
    }

    private static void orderOfAll() {
        CHECK.says("ORDER of CROSSERS at home, one SENT ahead of each HOUR from now on, QUIET, all else as it goes, in the order in which most TOLL is paid"
                + " behind 20 HOURS; of alike ones the first by the first CROSSER, then the next one's.");
        // by dawn n the first n - 2 that are sent are over
        String text = "spans 1; sleeper a 90 0 0 0; crosser p 5 0 4; crosser q 5 0 3; crosser r 5 0 2; crosser s 5 0 3; crosser t 5 0 9; dawn ";
        CHECK.dueRow("one", order(Check.of(text + "3;"), 5), -1, 9, 4, 0, 1, 2, 3, -1);
        CHECK.dueRow("two", order(Check.of(text + "4;"), 5), -1, 13, 0, 4, 1, 2, 3, -1);
        CHECK.dueRow("three", order(Check.of(text + "5;"), 5), -1, 16, 0, 1, 4, 2, 3, -1);
        CHECK.dueRow("four", order(Check.of(text + "6;"), 5), -1, 19, 0, 1, 3, 4, 2, -1);
        CHECK.dueRow("five", order(Check.of(text + "7;"), 5), -1, 21, 0, 1, 2, 3, 4, -1);
        CHECK.dueRow("none", order(Check.of(text + "0;"), 5), -1, 0, 0, 1, 2, 3, 4, -1);
        // tolls of 0 are alike, too
        SleepBridge x = Check.of("spans 1; sleeper a 90 0 0 0; crosser p 5 0 0; crosser q 5 0 0;");
        CHECK.dueRow("no toll", order(x, 2), -1, 0, 0, 1, -1);
    }

    private static void orderQuiet() {
        CHECK.says("ORDER of CROSSERS at home, one SENT ahead of each HOUR from now on, QUIET, all else as it goes, in the order in which most TOLL is paid"
                + " behind 20 HOURS; of alike ones the first by the first CROSSER, then the next one's.");
        SleepBridge x = Check.of("spans 1; sleeper a 9 0 0 0; crosser p 5 0 3; wakes = 100; dawn 9;");
        CHECK.due("nobody wakes", x.order(-1), 3);
        x.hours(1);
        CHECK.due("who is awake is not lulled", x.order(-1), 0);
        // all else as it goes: a deepens, p makes noise
        x = Check.of("spans 1; sleeper a 3 0 0 0; crosser p 5 0 3; crosser q 5 9 4; holds = depth - noise; deepens = 1; dawn 12;");
        CHECK.dueRow("q falls by its own noise until a bears 14", order(x, 2), -1, 3, 0, 1, -1);
    }

    private static void soon() {
        CHECK.says("SOON of a CROSSER at home: behind how many HOURS (1 .. 99) it is OVER, SENT now, QUIET.");
        for (int spans = 1; spans <= 5; spans++) {
            SleepBridge x = Check.of("spans " + spans + "; crosser p 0 1 1; dawn 0;");
            CHECK.dueRow("an hour for each span and one more", new int[] {x.soon(0), x.soon(1), x.soon(-1)}, spans + 1, -1, -1);
        }
        SleepBridge x = Check.of("spans 1; sleeper a 3 0 0 0; crosser p 5 0 1; deepens = 1; wakes = 100; dawn 20;");
        CHECK.due("it waits for a to bear 5", x.soon(0), 3);
        x.hours(1);
        CHECK.due("a is awake", x.soon(0), -2);
    }

    private static void soonNot() {
        CHECK.says("SOON; -2: not at home, not at all; NONE: no such one.");
        SleepBridge x = Check.of("spans 2; sleeper a 9 0 0 0; sleeper b 9 0 0 1; crosser p 5 0 1; crosser q 10 0 1; dawn 20;");
        CHECK.dueRow("p and q, none beside", new int[] {x.soon(0), x.soon(1), x.soon(2), x.soon(-1)}, 3, -2, -1, -1);
        for (int far : FAR) {
            CHECK.due("no such one " + far, x.soon(far), -1);
        }
        int[] where = {-3, 0, 1, 9};
        x.send(0);
        for (int i = 0; i < 4; i++) {
            CHECK.dueRow("not at home", new int[] {x.crosser(0, 3), x.soon(0)}, where[i], -2);
            x.hours(1);
        }
        x.night();
        CHECK.due("at home again", x.soon(0), 3);
        x.send(0);
        x.hours(1);
        x.night();
        CHECK.dueRow("fallen", new int[] {x.crosser(0, 3), x.soon(0)}, 10, -2);
        // too late: it falls at dawn, or cannot go on behind it
        x = Check.of("spans 2; sleeper a 9 0 0 0; sleeper b 9 0 0 1; crosser p 5 0 1; dawn 3;");
        CHECK.due("dawn 3", x.soon(0), -2);
        x = Check.of("spans 2; sleeper a 9 0 0 0; sleeper b 9 0 0 1; crosser p 5 0 1; dawn 4;");
        CHECK.due("dawn 4", x.soon(0), 3);
    }

    /** Who has a load must be over ahead of dawn, which is 99 at most: 98 is the latest. */
    private static void soonLate() {
        CHECK.says("SOON of a CROSSER at home: behind how many HOURS (1 .. 99) it is OVER, SENT now, QUIET.");
        for (int load = 95; load <= 99; load++) {
            SleepBridge x = Check.of("spans 1; sleeper a 0 0 0 0; crosser p " + load + " 0 1; deepens = 1; dawn 99;");
            CHECK.due("a load of " + load, x.soon(0), load <= 97 ? load + 1 : -2);
        }
    }

    private static void start() {
        CHECK.says("START of a CROSSER at home: the most HOURS (0 .. 40) one may wait and then SEND it, QUIET, so that it is OVER at DAWN or sooner, nobody else being SENT.");
        // two hours are needed: with no load dawn itself will do, with one it has to be sooner
        for (int dawn = 0; dawn <= 5; dawn++) {
            SleepBridge x = Check.of("spans 1; sleeper a 9 0 0 0; crosser p 0 0 1; crosser q 5 0 1; wakes = 100; dawn " + dawn + ";");
            CHECK.dueRow("dawn " + dawn, new int[] {x.start(0), x.start(1)}, dawn < 2 ? -2 : dawn - 2, dawn < 3 ? -2 : dawn - 3);
        }
        SleepBridge x = Check.of("spans 1; sleeper a 9 0 0 0; crosser p 0 0 1; crosser q 5 0 1; dawn 6;");
        int[][] rows = {{4, 3}, {3, 2}, {2, 1}, {1, 0}, {0, -2}, {-2, -2}, {-2, -2}, {-2, -2}};
        for (int[] row : rows) {
            CHECK.dueRow("hour " + x.count(4), new int[] {x.start(0), x.start(1)}, row);
            x.hours(1);
        }
        x.night();
        CHECK.dueRow("a new night", new int[] {x.start(0), x.start(1)}, 4, 3);
    }

    private static void startNot() {
        CHECK.says("START; -2: not at home, not even at once; NONE: no such one.");
        SleepBridge x = Check.of("spans 2; sleeper a 9 0 0 0; sleeper b 9 0 0 1; crosser p 5 0 1; crosser q 10 0 1; dawn 20;");
        CHECK.dueRow("p and q, none beside", new int[] {x.start(0), x.start(1), x.start(2), x.start(-1)}, 16, -2, -1, -1);
        for (int far : FAR) {
            CHECK.due("no such one " + far, x.start(far), -1);
        }
        int[] where = {-3, 0, 1, 9};
        x.send(0);
        for (int i = 0; i < 4; i++) {
            CHECK.dueRow("not at home", new int[] {x.crosser(0, 3), x.start(0)}, where[i], -2);
            x.hours(1);
        }
        x.night();
        x.send(0);
        x.hours(1);
        x.night();
        CHECK.dueRow("fallen", new int[] {x.crosser(0, 3), x.start(0)}, 10, -2);
    }

    private static void startMost() {
        CHECK.says("START of a CROSSER at home: the most HOURS (0 .. 40) one may wait and then SEND it, QUIET, so that it is OVER at DAWN or sooner, nobody else being SENT.");
        for (int dawn = 41; dawn <= 46; dawn++) {
            SleepBridge x = Check.of("spans 1; sleeper a 9 0 0 0; crosser p 0 0 1; crosser q 5 0 1; dawn " + dawn + ";");
            CHECK.dueRow("dawn " + dawn, new int[] {x.start(0), x.start(1)}, Math.min(40, dawn - 2), Math.min(40, dawn - 3));
        }
        SleepBridge x = Check.of("spans 5; crosser p 0 0 1; dawn 99;");
        CHECK.due("dawn 99", x.start(0), 40);
        // 6 are borne at the hours 7 and 8 alone
        x = Check.of("spans 1; sleeper a 9 0 0 0; crosser p 6 0 1; holds = if hour < 7 then 5 else if hour < 9 then 6 else 0; dawn 50;");
        CHECK.dueRow("sent at 0 or at 6 it goes on at 7, sent at 7 it falls at 9", new int[] {x.start(0), x.soon(0)}, 6, 8);
        // fewer hours would do, and more, but not those in between
        x = Check.of("spans 1; sleeper a 9 0 0 0; crosser p 6 0 1; holds = if hour < 3 then 6 else if hour < 4 then 5 else if hour < 7 then 6 else 0; dawn 50;");
        int[] over = new int[6];
        for (int wait = 0; wait < 6; wait++) {
            x.hold(0);
            x.send(0);
            over[wait] = x.then(30, true, 0, 0);
            x.restore(0);
            x.hours(1);
        }
        CHECK.dueRow("9 over, 10 fallen, by hours waited", over, 9, 10, 9, 9, 9, 10);
        x.night();
        CHECK.due("the most of all", x.start(0), 4);
    }

    private static void startNobodyElse() {
        CHECK.says("START of a CROSSER at home: the most HOURS (0 .. 40) one may wait and then SEND it, QUIET, so that it is OVER at DAWN or sooner, nobody else being SENT.");
        SleepBridge x = Check.of("spans 1; sleeper a 9 0 0 0; crosser p 9 0 1; crosser q 9 0 1; dawn 4;");
        CHECK.dueRow("each alone", new int[] {x.start(0), x.start(1)}, 1, 1);
        x.send(0);
        CHECK.dueRow("p goes on", new int[] {x.start(0), x.start(1)}, -2, 1);
        x = Check.of("spans 1; sleeper a 9 0 0 0; crosser p 9 0 1; crosser q 9 0 1; dawn 3;");
        x.send(1);
        CHECK.due("q is sent, but p goes first by its number", x.start(0), 0);
        x = Check.of("spans 1; sleeper a 9 0 0 0; crosser p 9 0 1; crosser q 9 0 1; dawn 3;");
        x.send(0);
        CHECK.due("p is there as q would be", x.start(1), -2);
    }

    private static void yearAsked() {
        CHECK.says("YEAR; NONE: no such ones.");
        SleepBridge x = Check.of("spans 1; sleeper a 9 0 0 0; crosser p 5 0 1; crosser q 5 0 1; dawn 99;");
        CHECK.dueRow("crossers", new int[] {x.year(-1, 5, 5), x.year(0, 5, 5), x.year(1, 5, 5), x.year(2, 5, 5)}, -1, 5, 5, -1);
        CHECK.dueRow("hours", new int[] {x.year(0, -1, 5), x.year(0, 0, 5), x.year(0, 1, 5), x.year(0, 2, 5), x.year(0, 99, 5), x.year(0, 100, 5)}, -1, 0, 0, 5, 5, -1);
        CHECK.dueRow("seeds", new int[] {x.year(0, 5, -1), x.year(0, 5, 0), x.year(0, 5, 1), x.year(0, 5, 20), x.year(0, 5, 21)}, -1, -1, 1, 20, -1);
        for (int far : FAR) {
            CHECK.dueRow("far off " + far, new int[] {x.year(far, 5, 5), x.year(0, far, 5), x.year(0, 5, far), x.year(far, far, far)}, -1, -1, -1, -1);
        }
        CHECK.due("a new object", new SleepBridge().year(0, 5, 5), -1);
    }

    private static void yearBySeeds() {
        CHECK.says("YEAR by s SEEDS (1 .. 20) from the text's SEED on: in how many of them a CROSSER is OVER in n HOURS (0 .. 99), if it is SENT now (if at home).");
        // a's first lots by the seeds 9999 to 10018: 98 87 78 62 55 24 9 70 12 39 48 45 77 71 21 7 14 11 19 62
        SleepBridge x = Check.of("spans 1; sleeper a 9 0 0 0; crosser p 5 0 1; seed 9999; wakes = if hour < 1 then 50 else 0; dawn 50;");
        int[] due = {1, 2, 3, 4, 5, 5, 5, 6, 6, 6, 6, 6, 7, 8, 8, 8, 8, 8, 8, 9};
        for (int s = 1; s <= 20; s++) {
            CHECK.due("year by " + s + " seeds", x.year(0, 2, s), due[s - 1]);
        }
        CHECK.due("the first is the text's own: 98 is not less than 50", x.then(1, false, 2, 0), 1);
        // by the lots of all hours so far, in a second night
        x.hours(1);
        x.night();
        // the second hour's lots of these seeds are those of 16
        int[] later = new int[20];
        int stay = 0;
        for (int i = 0; i < 20; i++) {
            stay += lot(9999 + i, 16) >= 50 ? 1 : 0;
            later[i] = stay;
        }
        for (int s = 1; s <= 20; s++) {
            CHECK.due("year by " + s + " seeds, the second night", x.year(0, 2, s), later[s - 1]);
        }
    }

    /** LOT 100 by longs that are cut to 32 bits by hand. */
    private static int lot(long seed, long which) {
        long h = seed;
        for (long it : new long[] {93, which}) {
            h = ((h ^ it) * 1103515245L + 12345L) % 4294967296L;
            h = h ^ h / 32768;
        }
        return (int) (h / 2 % 100);
    }

    private static void yearFromAnywhere() {
        CHECK.says("YEAR by s SEEDS (1 .. 20) from the text's SEED on: in how many of them a CROSSER is OVER in n HOURS (0 .. 99), if it is SENT now (if at home).");
        SleepBridge x = Check.of("spans 2; sleeper a 9 0 0 0; sleeper b 9 0 0 1; crosser p 5 0 1; dawn 20;");
        CHECK.dueRow("at home", new int[] {x.year(0, 2, 7), x.year(0, 3, 7)}, 0, 7);
        x.send(0);
        CHECK.dueRow("sent", new int[] {x.year(0, 2, 7), x.year(0, 3, 7)}, 0, 7);
        x.hours(1);
        CHECK.dueRow("on span 0", new int[] {x.year(0, 1, 7), x.year(0, 2, 7)}, 0, 7);
        x.hours(1);
        CHECK.dueRow("on span 1", new int[] {x.year(0, 0, 7), x.year(0, 1, 7)}, 0, 7);
        x.hours(1);
        CHECK.dueRow("over", new int[] {x.year(0, 0, 7), x.year(0, 99, 20)}, 7, 20);
        x.night();
        x.send(0);
        x.hours(2);
        x.night();
        CHECK.dueRow("fallen", new int[] {x.year(0, 0, 7), x.year(0, 99, 20)}, 0, 0);
    }
}
