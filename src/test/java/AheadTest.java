/** Promises 17, 22, 23 and 25: what would be. */
public final class AheadTest {
    private static final Check CHECK = new Check();
    private static final int MOST = Integer.MAX_VALUE;
    private static final int LEAST = Integer.MIN_VALUE;
    /** By seed 1 and 50 of 100 b and c wake in the second hour, a in the third. */
    private static final String TEXT = "spans 2; sleeper a 5 0 0 0; sleeper b 6 0 0 0; sleeper c 7 0 0 1; crosser p 4 1 9; crosser q 8 2 3; crosser r 40 0 1;"
            + "wakes = 50; deepens = 1; seed 1; dawn 7;";

    public static void main(String[] args) {
        thenByLots();
        thenQuiet();
        thenWrong();
        soon();
        soonByOthers();
        start();
        startEdges();
        year();
        yearWhere();
        nothingHappens();
        CHECK.end();
    }

    private static int[] then(SleepBridge x, int n, boolean quiet) {
        return new int[] {x.then(n, quiet, 0, 0), x.then(n, quiet, 0, 1), x.then(n, quiet, 0, 2), x.then(n, quiet, 1, 0), x.then(n, quiet, 1, 1),
            x.then(n, quiet, 2, 0), x.then(n, quiet, 3, 0), x.then(n, quiet, 4, 0), x.then(n, quiet, 5, 0)};
    }

    private static void thenByLots() {
        SleepBridge x = Check.of(TEXT);
        x.send(0);
        x.send(2);
        // p, q, r, span 0, span 1, asleep, tolls, fallen, least
        CHECK.dueRow("in 0 hours", then(x, 0, false), -3, -2, -3, 11, 7, 3, 0, 0, 7);
        CHECK.dueRow("in 1 hour", then(x, 1, false), 0, -2, -3, 13, 8, 3, 0, 0, 8);
        // b and c wake: span 0 bears 7, span 1 nothing, so p stays
        CHECK.dueRow("in 2 hours", then(x, 2, false), 0, -2, -3, 7, 0, 1, 0, 0, 0);
        CHECK.dueRow("in 3 hours", then(x, 3, false), 10, -2, -3, 0, 0, 0, 0, 1, 0);
        CHECK.dueRow("in 99 hours", then(x, 99, false), 10, -2, -3, 0, 0, 0, 0, 1, 0);
        x.hours(2);
        CHECK.dueRow("it is so", new int[] {x.crosser(0, 3), x.span(0, 0), x.span(1, 0), x.count(12)}, 0, 7, 0, 1);
        CHECK.dueRow("in 1 more", then(x, 1, false), 10, -2, -3, 0, 0, 0, 0, 1, 0);
    }

    private static void thenQuiet() {
        SleepBridge x = Check.of(TEXT);
        x.send(0);
        x.send(2);
        CHECK.dueRow("in 1 hour", then(x, 1, true), 0, -2, -3, 13, 8, 3, 0, 0, 8);
        CHECK.dueRow("in 2 hours", then(x, 2, true), 1, -2, -3, 15, 9, 3, 0, 0, 9);
        CHECK.dueRow("in 3 hours", then(x, 3, true), 9, -2, -3, 17, 10, 3, 9, 0, 10);
        CHECK.dueRow("in 6 hours", then(x, 6, true), 9, -2, -3, 23, 13, 3, 9, 0, 13);
        CHECK.dueRow("in 7 hours it is dawn", then(x, 7, true), 9, -2, -3, 0, 0, 0, 9, 0, 0);
        x.hours(2);
        CHECK.dueRow("who is awake stays so", then(x, 1, true), 0, -2, -3, 8, 0, 1, 0, 0, 0);
        x = Check.of("spans 1; sleeper a 9 0 0 0; crosser p 1 0 7; crosser q 1 0 5;");
        x.send(0);
        x.hours(2);
        x.send(1);
        CHECK.dueRow("tolls more", new int[] {x.count(7), x.then(1, true, 3, 0), x.then(2, true, 3, 0), x.then(9, false, 3, 0)}, 7, 0, 5, 5);
        x.hours(1);
        x.night();
        CHECK.dueRow("fallen by then", new int[] {x.then(0, true, 4, 0), x.then(5, true, 4, 0)}, 1, 1);
    }

    private static void thenWrong() {
        SleepBridge x = Check.of(TEXT);
        CHECK.dueRow("no such n", new int[] {x.then(-1, true, 2, 0), x.then(100, true, 2, 0), x.then(MOST, false, 2, 0), x.then(LEAST, false, 2, 0)},
                -100, -100, -100, -100);
        CHECK.dueRow("no such what", new int[] {x.then(1, true, -1, 0), x.then(1, true, 6, 0), x.then(1, true, MOST, 0), x.then(1, true, LEAST, 0)},
                -100, -100, -100, -100);
        CHECK.dueRow("no such which", new int[] {x.then(1, true, 0, 3), x.then(1, true, 0, -1), x.then(1, true, 1, 2), x.then(1, true, 1, -1),
            x.then(1, true, 0, MOST), x.then(1, true, 1, LEAST)}, -100, -100, -100, -100, -100, -100);
        CHECK.dueRow("which is not looked at", new int[] {x.then(0, true, 2, 77), x.then(0, true, 3, -5), x.then(0, true, 4, MOST),
            x.then(0, true, 5, LEAST)}, 3, 0, 0, 7);
    }

    private static void soon() {
        SleepBridge x = Check.of(TEXT);
        // q has to wait until span 0 bears 8 (at once) and span 1 (c: 8 behind an hour)
        CHECK.dueRow("soon", new int[] {x.soon(0), x.soon(1), x.soon(2), x.soon(3), x.soon(-1), x.soon(MOST), x.soon(LEAST)}, 3, 3, -2, -1, -1, -1, -1);
        x.send(0);
        CHECK.dueRow("p is sent, and q cannot be on span 1 with it", new int[] {x.soon(0), x.soon(1)}, -2, 4);
        x = Check.of("spans 1; sleeper a 0 0 0 0; crosser p 97 0 1; crosser q 98 0 1; crosser z 0 0 0; deepens = 1; dawn 99;");
        // behind 97 hours a holds 97: on the span then, over in the 98th; 98 is over in the 99th, which is dawn
        CHECK.dueRow("late", new int[] {x.soon(0), x.soon(1), x.soon(2)}, 98, -2, 2);
        x.hours(1);
        x.night();
        CHECK.due("at home again", x.soon(0), 98);
        x = Check.of("spans 5; crosser z 0 0 0; dawn 0;");
        CHECK.due("no load, no sleepers", x.soon(0), 6);
        x.send(0);
        x.hours(2);
        CHECK.due("on a span", x.soon(0), -2);
        x.hours(4);
        CHECK.due("over", x.soon(0), -2);
    }

    private static void soonByOthers() {
        // all else goes on: r, sent already, is on each span first
        SleepBridge x = Check.of("spans 1; sleeper a 9 0 0 0; crosser p 5 0 1; crosser r 5 0 1;");
        x.send(0);
        CHECK.due("p goes first", x.soon(1), 3);
        x.hours(1);
        CHECK.due("p is over as r goes on", x.soon(1), 2);
        // nobody wakes: a would by its law
        x = Check.of("spans 1; sleeper a 9 0 0 0; crosser p 5 0 1; wakes = 100;");
        CHECK.due("quiet", x.soon(0), 2);
    }

    private static void start() {
        SleepBridge x = Check.of("spans 2; sleeper a 9 0 0 0; sleeper b 9 0 0 1; crosser p 5 0 1; crosser q 10 0 1; crosser z 0 0 1; wakes = 100; dawn 8;");
        // three hours are needed, and the last of them is no later than hour 7; with no load it may be dawn
        CHECK.dueRow("start", new int[] {x.start(0), x.start(1), x.start(2), x.start(3), x.start(-1), x.start(MOST), x.start(LEAST)},
                4, -2, 5, -1, -1, -1, -1);
        x.lull(0);
        x.hours(0);
        x.send(0);
        CHECK.due("sent", x.start(0), -2);
        x = Check.of("spans 2; sleeper a 9 0 0 0; sleeper b 9 0 0 1; crosser p 5 0 1; dawn 8;");
        x.hours(3);
        CHECK.due("hours have gone", x.start(0), 1);
        x.hours(1);
        CHECK.due("at once", x.start(0), 0);
        x.hours(1);
        CHECK.due("too late", x.start(0), -2);
        x.hours(9);
        CHECK.due("behind dawn", x.start(0), -2);
        x.night();
        CHECK.due("a new night", x.start(0), 4);
    }

    private static void startEdges() {
        SleepBridge x = Check.of("spans 1; sleeper a 9 0 0 0; crosser p 5 0 1; crosser z 0 0 0; dawn 99;");
        CHECK.due("40 at most", x.start(0), 40);
        x = Check.of("spans 1; sleeper a 9 0 0 0; crosser p 5 0 1; crosser z 0 0 0; dawn 42;");
        CHECK.dueRow("39 and 40", new int[] {x.start(0), x.start(1)}, 39, 40);
        // only by waiting: a bears 12 from hour 2 to 4
        x = Check.of("spans 1; sleeper a 9 0 0 0; crosser p 12 0 1; holds = if hour < 2 then 9 else if hour < 5 then 12 else 0;");
        CHECK.dueRow("start", new int[] {x.start(0), x.soon(0)}, 2, 3);
        x = Check.of("spans 1; sleeper a 9 0 0 0; crosser p 12 0 1; holds = if hour < 2 then 0 - 9 else if hour < 3 then 12 else 0;");
        CHECK.dueRow("no way", new int[] {x.start(0), x.soon(0)}, -2, -2);
        // who is on the way already goes on
        x = Check.of("spans 1; sleeper a 9 0 0 0; crosser p 9 0 1; crosser q 9 0 1; dawn 4;");
        CHECK.due("alone", x.start(0), 1);
        x.send(0);
        CHECK.dueRow("q behind p", new int[] {x.start(0), x.start(1)}, -2, 1);
        x = Check.of("spans 1; sleeper a 9 0 0 0; crosser p 9 0 1; crosser q 9 0 1; dawn 3;");
        CHECK.due("alone", x.start(1), 0);
        x.send(0);
        CHECK.due("p is there as q would be", x.start(1), -2);
        x = Check.of("spans 1; crosser z 0 0 0; dawn 1;");
        CHECK.due("two hours are needed", x.start(0), -2);
        x = Check.of("spans 1; crosser z 0 0 0; dawn 2;");
        CHECK.due("at dawn", x.start(0), 0);
    }

    /** The lots of 100 of sleeper 0 in hour 0, by seeds 5 to 24: 3 26 80 31 19 0 87 93 47 28 34 98 61 59 6 21 36 36 8 8. */
    private static void year() {
        SleepBridge x = Check.of("spans 1; sleeper a 9 0 0 0; crosser p 5 0 1; seed 5; wakes = if hour < 1 then 50 else 0;");
        int[] got = new int[20];
        for (int s = 1; s <= 20; s++) {
            got[s - 1] = x.year(0, 2, s);
        }
        CHECK.dueRow("year by seeds", got, 0, 0, 1, 1, 1, 1, 2, 3, 3, 3, 3, 4, 5, 6, 6, 6, 6, 6, 6, 6);
        CHECK.dueRow("by hours", new int[] {x.year(0, 0, 20), x.year(0, 1, 20), x.year(0, 3, 20), x.year(0, 99, 20)}, 0, 0, 6, 6);
        CHECK.dueRow("no such", new int[] {x.year(1, 2, 3), x.year(-1, 2, 3), x.year(0, -1, 3), x.year(0, 100, 3), x.year(0, 2, 0), x.year(0, 2, 21),
            x.year(MOST, 2, 3), x.year(0, MOST, 3), x.year(0, 2, MOST), x.year(0, LEAST, LEAST)}, -1, -1, -1, -1, -1, -1, -1, -1, -1, -1);
    }

    private static void yearWhere() {
        SleepBridge x = Check.of("spans 2; sleeper a 9 0 0 0; sleeper b 9 0 0 1; crosser p 5 0 1; crosser q 5 0 1; crosser r 50 0 1; seed 9999;");
        x.send(0);
        CHECK.dueRow("sent", new int[] {x.year(0, 2, 4), x.year(0, 3, 4)}, 0, 4);
        x.hours(1);
        CHECK.dueRow("on a span", new int[] {x.year(0, 1, 4), x.year(0, 2, 4)}, 0, 4);
        x.hours(2);
        CHECK.dueRow("over", new int[] {x.year(0, 0, 4), x.year(0, 9, 20)}, 4, 20);
        x.send(1);
        x.hours(1);
        x.night();
        CHECK.dueRow("fallen", new int[] {x.crosser(1, 3), x.year(1, 0, 4), x.year(1, 9, 20)}, 10, 0, 0);
        CHECK.due("too heavy", x.year(2, 99, 20), 0);
    }

    private static void nothingHappens() {
        SleepBridge x = Check.of(TEXT);
        x.send(0);
        x.hours(1);
        for (int i = 0; i < 2; i++) {
            CHECK.dueRow("as it was", new int[] {x.count(4), x.count(6), x.count(7), x.count(9), x.count(12), x.crosser(0, 3), x.crosser(1, 3),
                x.sleeper(0, 0), x.sleeper(2, 3), x.sleeper(2, 0)}, 1, 1, 0, 2, 7, 0, -2, 6, 1, 8);
            x.then(50, false, 0, 0);
            x.then(50, true, 3, 0);
            x.weakest(-1);
            x.better(0);
            x.cheap(3, 0);
            x.order(-1);
            x.soon(1);
            x.start(1);
            x.missed(0);
            x.year(1, 50, 20);
            x.awake(0, -1);
            x.ask(0);
        }
    }
}
