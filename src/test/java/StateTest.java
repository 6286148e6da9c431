/** Promises 6 to 10 and 32: what there is. */
public final class StateTest {
    private static final Check CHECK = new Check();
    private static final String TEXT = "spans 3; sleeper a 9 1 2 0; sleeper b 8 3 4 0; sleeper c 7 5 6 2; pair a b; pair b c; crosser p 6 2 11;"
            + "crosser q 3 1 5; crosser r 99 9 99; bonus 4; dawn 8;"
            + "wakes = if hour < 2 then 0 else if which < 1 then 100 else 0; deepens = 2 - weight;";

    public static void main(String[] args) {
        sleepers();
        crossers();
        spans();
        tells();
        dreams();
        counts();
        CHECK.end();
    }

    private static int[] sleeper(SleepBridge x, int s) {
        int[] row = new int[8];
        for (int what = -1; what <= 6; what++) {
            row[what + 1] = x.sleeper(s, what);
        }
        return row;
    }

    private static void sleepers() {
        SleepBridge x = Check.of(TEXT);
        CHECK.dueRow("sleeper 0", sleeper(x, 0), -1, 9, 1, 2, 0, 1, 9, -1);
        CHECK.dueRow("sleeper 2", sleeper(x, 2), -1, 7, 5, 6, 2, 1, 7, -1);
        CHECK.dueRow("sleeper 3", sleeper(x, 3), -1, -1, -1, -1, -1, -1, -1, -1);
        CHECK.dueRow("sleeper -1", sleeper(x, -1), -1, -1, -1, -1, -1, -1, -1, -1);
        CHECK.due("far sleeper", x.sleeper(Integer.MAX_VALUE, 0), -1);
        CHECK.due("far sleeper", x.sleeper(Integer.MIN_VALUE, 0), -1);
        CHECK.due("far what", x.sleeper(0, Integer.MAX_VALUE), -1);
        x.hours(3);
        // a deepened twice by 1 and then woke; b went 1 up by -1 each hour, c by -3
        CHECK.dueRow("sleeper 0", sleeper(x, 0), -1, 11, 1, 2, 0, 0, 0, -1);
        CHECK.dueRow("sleeper 1", sleeper(x, 1), -1, 5, 3, 4, 0, 1, 5, -1);
        CHECK.dueRow("sleeper 2", sleeper(x, 2), -1, 0, 5, 6, 2, 1, 0, -1);
        x.lay(0, 2);
        CHECK.due("its span", x.sleeper(0, 3), 2);
        x.hours(5);
        CHECK.dueRow("sleeper 1 at dawn", sleeper(x, 1), -1, 0, 3, 4, 0, 0, 0, -1);
    }

    private static int[] crosser(SleepBridge x, int c) {
        int[] row = new int[7];
        for (int what = -1; what <= 5; what++) {
            row[what + 1] = x.crosser(c, what);
        }
        return row;
    }

    private static void crossers() {
        SleepBridge x = Check.of("spans 2; sleeper a 9 1 2 0; sleeper b 8 3 4 1; crosser p 6 2 11; crosser q 3 1 5; crosser r 99 9 99; dawn 6;");
        CHECK.dueRow("crosser 0", crosser(x, 0), -1, 6, 2, 11, -2, 0, -1);
        CHECK.dueRow("crosser 2", crosser(x, 2), -1, 99, 9, 99, -2, 0, -1);
        CHECK.dueRow("crosser 3", crosser(x, 3), -1, -1, -1, -1, -1, -1, -1);
        CHECK.dueRow("crosser -1", crosser(x, -1), -1, -1, -1, -1, -1, -1, -1);
        CHECK.due("far crosser", x.crosser(Integer.MAX_VALUE, 3), -1);
        CHECK.due("far crosser", x.crosser(Integer.MIN_VALUE, 3), -1);
        x.send(0);
        CHECK.due("sent", x.crosser(0, 3), -3);
        x.hours(1);
        CHECK.due("on span 0", x.crosser(0, 3), 0);
        x.hours(1);
        CHECK.due("on span 1", x.crosser(0, 3), 1);
        x.hours(1);
        CHECK.dueRow("over", crosser(x, 0), -1, 6, 2, 11, 9, 1, -1);
        x.night();
        CHECK.dueRow("at home again", crosser(x, 0), -1, 6, 2, 11, -2, 1, -1);
        x.send(0);
        x.hours(3);
        CHECK.dueRow("over again", crosser(x, 0), -1, 6, 2, 11, 9, 2, -1);
        x.send(1);
        x.hours(3);
        CHECK.dueRow("fallen at dawn", crosser(x, 1), -1, 3, 1, 5, 10, 0, -1);
        CHECK.due("how often over, of all", x.count(18), 2);
        CHECK.due("tolls", x.count(7), 22);
    }

    private static int[] span(SleepBridge x, int span) {
        int[] row = new int[6];
        for (int what = -1; what <= 4; what++) {
            row[what + 1] = x.span(span, what);
        }
        return row;
    }

    private static void spans() {
        SleepBridge x = Check.of(TEXT);
        CHECK.dueRow("span 0", span(x, 0), -1, 21, 0, 3, 0, -1);
        CHECK.dueRow("span 1", span(x, 1), -1, 0, 0, 0, 0, -1);
        CHECK.dueRow("span 2", span(x, 2), -1, 7, 0, 4, 0, -1);
        CHECK.dueRow("span 3", span(x, 3), -1, -1, -1, -1, -1, -1);
        CHECK.dueRow("span -1", span(x, -1), -1, -1, -1, -1, -1, -1);
        CHECK.due("far span", x.span(Integer.MIN_VALUE, 1), -1);
        x.send(0);
        x.send(1);
        x.hours(1);
        CHECK.dueRow("span 0 with two on it", span(x, 0), -1, 21, 9, 3, 3, -1);
        x.hours(2);
        // a is awake, which is on it all the same
        CHECK.dueRow("span 0, a awake", span(x, 0), -1, 5, 0, 3, 0, -1);
        CHECK.due("both have fallen: 9 is more than 5", x.count(13), 3);
    }

    private static void tells() {
        SleepBridge x = Check.of(TEXT);
        CHECK.dueRow("tells", new int[] {x.tells(0, 0), x.tells(0, 1), x.tells(2, 1), x.tells(0, 2), x.tells(0, -1), x.tells(3, 0), x.tells(-1, 0)},
                0, 1, -3, -100, -100, -100, -100);
        x.hours(2);
        CHECK.dueRow("tells", new int[] {x.tells(0, 0), x.tells(1, 0)}, 100, 0);
        x.hours(1);
        CHECK.dueRow("tells of who is awake", new int[] {x.tells(0, 0), x.tells(0, 1), x.tells(1, 0)}, -100, -100, 0);
        x.hours(5);
        CHECK.dueRow("tells at dawn", new int[] {x.tells(1, 0), x.tells(1, 1)}, -100, -100);
    }

    private static void dreams() {
        SleepBridge x = Check.of(TEXT);
        CHECK.dueRow("dreams", new int[] {x.dreams(-1), x.dreams(0), x.dreams(1), x.dreams(2), x.dreams(3), x.count(16)}, -1, 1, 0, 0, -1, 1);
        x.lay(2, 0);
        CHECK.dueRow("dreams", new int[] {x.dreams(0), x.span(0, 0), x.count(16)}, 2, 9 + 8 + 7 + 2 * 4, 2);
        x.lay(1, 2);
        x.lay(2, 2);
        CHECK.dueRow("dreams", new int[] {x.dreams(0), x.dreams(2), x.span(2, 0), x.count(16)}, 0, 1, 8 + 7 + 4, 1);
        x.lay(0, 2);
        x.hours(3);
        CHECK.dueRow("a is awake", new int[] {x.dreams(2), x.count(16)}, 1, 1);
        x.hours(5);
        CHECK.dueRow("dawn", new int[] {x.dreams(2), x.count(16)}, 0, 0);
    }

    private static int[] counts(SleepBridge x) {
        int[] row = new int[19];
        for (int what = 0; what <= 18; what++) {
            row[what] = x.count(what);
        }
        return row;
    }

    private static void counts() {
        SleepBridge x = Check.of(TEXT);
        CHECK.dueRow("counts", counts(x), 3, 3, 2, 3, 0, 1, 0, 0, 0, 0, 0, 0, 7, 0, 0, 12, 1, 0, 0);
        x.lay(1, 1);
        CHECK.due("least", x.count(17), 7);
        x.send(1);
        x.hours(2);
        x.hold(2);
        x.hold(0);
        x.hold(2);
        x.tell(0, 1);
        x.tell(0, 2);
        x.feed(0, 0, 0, 0, 0);
        CHECK.dueRow("counts", counts(x), 3, 3, 2, 3, 2, 1, 2, 0, 20, 3, 2, 2, 7, 0, 1, 12, 0, 1, 0);
        x.hours(2);
        x.night();
        x.hours(1);
        CHECK.dueRow("counts", counts(x), 3, 3, 2, 3, 1, 2, 5, 0, 20, 6, 2, 2, 7, 2, 0, 12, 0, 4, 0);
        CHECK.dueRow("no such", new int[] {x.count(-1), x.count(19), x.count(Integer.MAX_VALUE), x.count(Integer.MIN_VALUE)}, -1, -1, -1, -1);
    }
}
