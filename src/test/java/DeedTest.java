/** Promises 11 to 16, 30 and 31: what is done by hand, undone, held and gone on from. */
public final class DeedTest {
    private static final Check CHECK = new Check();
    private static final int MOST = Integer.MAX_VALUE;
    private static final int LEAST = Integer.MIN_VALUE;

    public static void main(String[] args) {
        sending();
        laying();
        lulling();
        hoursAnswer();
        wakingByLots();
        asTheHourBegan();
        deepening();
        breaking();
        going();
        goingByLoad();
        nights();
        nightFalls();
        undoing();
        undoingAll();
        holding();
        CHECK.end();
    }

    private static void sending() {
        SleepBridge x = Check.of("spans 1; sleeper a 9 0 0 0; crosser p 4 0 1; crosser q 20 0 1; dawn 9;");
        CHECK.due("send(-1)", x.send(-1), false);
        CHECK.due("send(2)", x.send(2), false);
        CHECK.due("send(far)", x.send(MOST), false);
        CHECK.due("send(far)", x.send(LEAST), false);
        CHECK.due("things done", x.count(9), 0);
        CHECK.due("send(0)", x.send(0), true);
        CHECK.due("send(0) sent", x.send(0), false);
        CHECK.due("things done", x.count(9), 1);
        x.hours(1);
        CHECK.due("send(0) on a span", x.send(0), false);
        x.hours(1);
        CHECK.due("send(0) over", x.send(0), false);
        x.night();
        CHECK.due("send(0) at home again", x.send(0), true);
        x.hours(1);
        x.night();
        CHECK.due("send(0) fallen", x.send(0), false);
        CHECK.due("send(1)", x.send(1), true);
        x.hours(3);
        CHECK.due("it waits", x.crosser(1, 3), -3);
    }

    private static void laying() {
        SleepBridge x = Check.of("spans 3; sleeper a 9 0 0 0; sleeper b 4 1 0 1; wakes = 100 * weight; dawn 5;");
        CHECK.due("lay(0, 0)", x.lay(0, 0), false);
        CHECK.due("lay(0, 3)", x.lay(0, 3), false);
        CHECK.due("lay(0, -1)", x.lay(0, -1), false);
        CHECK.due("lay(2, 1)", x.lay(2, 1), false);
        CHECK.due("lay(-1, 1)", x.lay(-1, 1), false);
        CHECK.due("lay(far)", x.lay(MOST, LEAST), false);
        CHECK.due("things done", x.count(9), 0);
        CHECK.due("lay(0, 2)", x.lay(0, 2), true);
        CHECK.dueRow("bears", new int[] {x.span(0, 0), x.span(1, 0), x.span(2, 0), x.span(2, 2)}, 0, 4, 9, 1);
        x.hours(1);
        CHECK.due("b is awake", x.count(12), 1);
        CHECK.due("lay(1, 2)", x.lay(1, 2), true);
        CHECK.dueRow("bears", new int[] {x.span(1, 0), x.span(2, 0), x.span(2, 2)}, 0, 9, 3);
        x.night();
        CHECK.dueRow("they lie as laid", new int[] {x.sleeper(0, 3), x.sleeper(1, 3), x.span(2, 0)}, 2, 2, 13);
    }

    private static void lulling() {
        SleepBridge x = Check.of("spans 1; sleeper a 9 1 0 0; sleeper b 30 1 0 0; sleeper c 8 1 0 0; sleeper d 8 0 0 0; wakes = 100 * weight; dawn 4;");
        CHECK.due("lull(0) asleep", x.lull(0), -2);
        CHECK.due("lull(4)", x.lull(4), -1);
        CHECK.due("lull(-1)", x.lull(-1), -1);
        CHECK.due("lull(far)", x.lull(MOST), -1);
        x.hours(1);
        CHECK.due("asleep", x.count(12), 8);
        CHECK.due("things done", x.count(9), 1);
        CHECK.due("lull(0)", x.lull(0), 0);
        CHECK.due("lull(1)", x.lull(1), 21);
        CHECK.due("lull(2)", x.lull(2), 0);
        CHECK.due("lull(3) asleep", x.lull(3), -2);
        CHECK.due("lull(1) asleep again", x.lull(1), -2);
        CHECK.due("asleep", x.count(12), 15);
        CHECK.due("depth", x.sleeper(1, 0), 21);
        CHECK.due("things done", x.count(9), 4);
        x.hours(2);
        CHECK.due("lull(1) an hour ahead of dawn", x.lull(1), 12);
        x.hours(1);
        CHECK.dueRow("lull at dawn", new int[] {x.count(4), x.lull(0), x.lull(3), x.lull(4)}, 4, -2, -2, -1);
        x = Check.of("sleeper a 9 1 0 0; dawn 0;");
        CHECK.dueRow("dawn 0", new int[] {x.count(12), x.lull(0), x.sleeper(0, 4), x.night(), x.count(12)}, 0, -2, 0, 2, 0);
    }

    private static void hoursAnswer() {
        SleepBridge x = Check.of("spans 1; sleeper a 9 1 0 0; dawn 99;");
        CHECK.dueRow("no such n", new int[] {x.hours(-1), x.hours(25), x.hours(MOST), x.hours(LEAST), x.count(9), x.count(4)}, -1, -1, -1, -1, 0, 0);
        CHECK.dueRow("hours(0)", new int[] {x.hours(0), x.count(9)}, 0, 0);
        CHECK.dueRow("hours(24)", new int[] {x.hours(24), x.count(9), x.count(4), x.count(6)}, 24, 1, 24, 24);
        CHECK.dueRow("hours", new int[] {x.hours(24), x.hours(24), x.hours(24), x.hours(2), x.count(12)}, 48, 72, 96, 98, 1);
        CHECK.dueRow("dawn", new int[] {x.hours(0), x.hours(1), x.count(12), x.hours(24)}, 98, 99, 0, 123);
        CHECK.dueRow("night", new int[] {x.night(), x.hours(0), x.hours(3), x.count(6)}, 2, 0, 3, 126);
    }

    /** Seed 1 has these lots of 100 for three sleepers: 53 52 99, 56 37 19, 43 90 69, 94 83 22. */
    private static void wakingByLots() {
        String three = "sleeper a 5 0 0 0; sleeper b 5 0 0 0; sleeper c 5 0 0 0; seed 1; wakes = ";
        int[][] rows = {{50, 7, 1, 0}, {52, 7, 1, 0}, {53, 5, 1, 0}, {54, 4, 0, 0}, {99, 4, 0, 0}, {100, 0, 0, 0}, {20, 7, 3, 3}, {19, 7, 7, 7}};
        for (int[] row : rows) {
            SleepBridge x = Check.of(three + row[0] + ";");
            int[] got = {row[0], 0, 0, 0};
            for (int h = 1; h <= 3; h++) {
                x.hours(1);
                got[h] = x.count(12);
            }
            CHECK.dueRow("who is asleep by wakes", got, row);
            x = Check.of(three + row[0] + ";");
            x.hours(3);
            CHECK.due("three hours at once", x.count(12), row[3]);
        }
        // lots go on by all hours of all nights: the third hour's are 43 90 69, the fourth's 94 83 22
        SleepBridge x = Check.of(three + "50;");
        x.hours(2);
        x.night();
        x.hours(1);
        CHECK.dueRow("the third hour of all", new int[] {x.count(12), x.count(4)}, 6, 1);
        x.night();
        x.hours(1);
        CHECK.due("the fourth hour of all", x.count(12), 3);
        x.undo();
        x.undo();
        x.undo();
        x.hours(1);
        CHECK.due("the third hour again", x.count(12), 6);
        // seed 9999: 98 91 51
        x = Check.of("sleeper a 5 0 0 0; sleeper b 5 0 0 0; sleeper c 5 0 0 0; seed 9999; wakes = 92;");
        x.hours(1);
        CHECK.due("seed 9999", x.count(12), 1);
    }

    private static void asTheHourBegan() {
        SleepBridge x = Check.of("sleeper a 5 0 0 0; sleeper b 5 0 0 0; sleeper c 5 0 0 1; wakes = 100 * beside;");
        x.hours(1);
        CHECK.due("both wake at once", x.count(12), 4);
        x = Check.of("sleeper a 5 1 0 0; sleeper b 5 0 0 0; wakes = 100 * weight; deepens = beside * 3 + 1;");
        x.hours(1);
        CHECK.dueRow("a woke, b deepened by how it was", new int[] {x.count(12), x.sleeper(0, 0), x.sleeper(1, 0)}, 2, 5, 9);
        x.hours(1);
        CHECK.dueRow("a is awake, b alone", new int[] {x.count(12), x.sleeper(0, 0), x.sleeper(1, 0)}, 2, 5, 10);
        x = Check.of("sleeper a 5 0 0 0; deepens = hour + 1;");
        x.hours(3);
        CHECK.due("1, 2 and 3 deeper", x.sleeper(0, 0), 11);
        // noise and load as the hour began: p goes on the bridge in the first hour, is over in the third
        x = Check.of("spans 1; sleeper a 5 0 0 0; crosser p 2 3 0; deepens = noise; wakes = 0; holds = 9;");
        x.send(0);
        int[] depths = {x.hours(1) + x.sleeper(0, 0) - 1, x.hours(1) + x.sleeper(0, 0) - 2, x.hours(1) + x.sleeper(0, 0) - 3};
        CHECK.dueRow("deepens by noise", depths, 5, 8, 8);
    }

    private static void deepening() {
        SleepBridge x = Check.of("sleeper a 95 0 0 0; sleeper b 12 1 0 0; sleeper c 50 2 0 0; dawn 3;"
                + "deepens = if weight < 1 then 3 else if weight < 2 then 0 - 50 else 50;");
        int[][] rows = {{98, 3, 59}, {99, 0, 68}, {99, 0, 77}, {99, 0, 77}};
        for (int[] row : rows) {
            x.hours(1);
            CHECK.dueRow("depths", new int[] {x.sleeper(0, 0), x.sleeper(1, 0), x.sleeper(2, 0)}, row);
        }
        CHECK.due("nobody is asleep from dawn on", x.count(12), 0);
    }

    private static void breaking() {
        // p falls from span 0 first, so that q on span 1 hears less noise
        SleepBridge x = Check.of("spans 2; sleeper a 1 0 0 0; sleeper b 1 0 0 1; crosser p 15 9 1; crosser q 15 3 7;"
                + "holds = if hour < 3 then 50 else 20 - noise;");
        x.send(1);
        x.hours(1);
        x.send(0);
        x.hours(1);
        CHECK.dueRow("where", new int[] {x.crosser(0, 3), x.crosser(1, 3), x.count(14)}, 0, 1, 12);
        CHECK.dueRow("then", new int[] {x.hours(1), x.crosser(0, 3), x.crosser(1, 3), x.count(7), x.count(13), x.count(14)}, 3, 10, 9, 7, 1, 0);
        // the other way round q falls too late to help p
        x = Check.of("spans 2; sleeper a 1 0 0 0; sleeper b 1 0 0 1; crosser p 15 3 1; crosser q 15 9 7;"
                + "holds = if hour < 3 then 50 else 20 - noise;");
        x.send(1);
        x.hours(1);
        x.send(0);
        x.hours(2);
        CHECK.dueRow("both fell", new int[] {x.crosser(0, 3), x.crosser(1, 3), x.count(7), x.count(13)}, 10, 10, 0, 3);
        // as much as it bears is not more; one more is, and then all fall
        x = Check.of("spans 1; sleeper a 1 0 0 0; crosser p 5 0 1; crosser q 4 0 1; holds = if hour < 2 then 20 else 9;");
        x.send(0);
        x.send(1);
        CHECK.dueRow("just borne", new int[] {x.hours(1), x.span(0, 1), x.hours(1), x.count(13), x.count(7)}, 1, 9, 2, 0, 2);
        x = Check.of("spans 1; sleeper a 1 0 0 0; crosser p 5 0 1; crosser q 4 0 1; holds = if hour < 2 then 20 else 8;");
        x.send(0);
        x.send(1);
        x.hours(2);
        CHECK.dueRow("all on it fell", new int[] {x.count(13), x.count(7)}, 3, 0);
        // who holds by load is looked at with the load that is there
        x = Check.of("spans 1; sleeper a 1 0 0 0; crosser p 5 0 1; holds = 9 - load;");
        x.send(0);
        CHECK.dueRow("holds by load", new int[] {x.hours(1), x.crosser(0, 3), x.span(0, 0), x.hours(1), x.crosser(0, 3)}, 1, 0, 4, 2, 10);
    }

    private static void going() {
        // span 0 and 1 bear one at a time: the one ahead goes first, so the one behind can follow
        SleepBridge x = Check.of("spans 2; sleeper a 5 0 0 0; sleeper b 5 0 0 1; crosser p 5 0 1; crosser q 5 0 2; crosser r 5 0 4;");
        x.send(1);
        x.hours(1);
        x.send(2);
        x.send(0);
        x.hours(1);
        CHECK.dueRow("q goes on, p by number follows", new int[] {x.crosser(0, 3), x.crosser(1, 3), x.crosser(2, 3)}, 0, 1, -3);
        x.hours(1);
        CHECK.dueRow("all one further", new int[] {x.crosser(0, 3), x.crosser(1, 3), x.crosser(2, 3), x.count(7)}, 1, 9, 0, 2);
        x.hours(2);
        CHECK.dueRow("all over", new int[] {x.crosser(0, 3), x.crosser(1, 3), x.crosser(2, 3), x.count(7)}, 9, 9, 9, 7);
        // the one ahead stays, so the one behind stays
        x = Check.of("spans 2; sleeper a 9 0 0 0; sleeper b 5 0 0 1; crosser p 6 0 1; crosser q 6 0 2; crosser r 3 0 2;");
        x.send(0);
        x.hours(1);
        x.send(1);
        x.hours(3);
        CHECK.dueRow("p stays on span 0, q waits", new int[] {x.crosser(0, 3), x.crosser(1, 3), x.count(4)}, 0, -3, 4);
        x.send(2);
        x.hours(1);
        CHECK.dueRow("r goes to p: 9 are borne", new int[] {x.crosser(0, 3), x.crosser(1, 3), x.crosser(2, 3)}, 0, -3, 0);
        x.hours(1);
        CHECK.dueRow("r goes past p", new int[] {x.crosser(0, 3), x.crosser(1, 3), x.crosser(2, 3)}, 0, -3, 1);
        // who has no load goes over even at dawn
        x = Check.of("spans 2; crosser p 0 9 8; dawn 1;");
        x.send(0);
        x.hours(3);
        CHECK.dueRow("no load", new int[] {x.crosser(0, 3), x.count(7)}, 9, 8);
        // each one only one span an hour, all five of them
        for (int span = 1; span < 5; span++) {
            x = Check.of("spans 5; sleeper a 1 0 0 0; sleeper b 1 0 0 1; sleeper c 1 0 0 2; sleeper d 1 0 0 3; sleeper e 1 0 0 4; crosser p 1 1 8;");
            x.send(0);
            x.hours(span + 1);
            CHECK.due("one span an hour", x.crosser(0, 3), span);
        }
        x.hours(1);
        CHECK.dueRow("over behind the last", new int[] {x.crosser(0, 3), x.count(4)}, 9, 6);
    }

    /** Whether one can go on is looked at with who is there then: noise and load without him there. */
    private static void goingByLoad() {
        SleepBridge x = Check.of("spans 1; sleeper a 1 0 0 0; crosser p 5 4 1; crosser q 5 4 1; holds = 10 - noise;");
        x.send(0);
        x.send(1);
        x.hours(1);
        CHECK.dueRow("p went on by 10, q not by 6", new int[] {x.crosser(0, 3), x.crosser(1, 3), x.span(0, 0)}, 0, -3, 6);
        x.hours(1);
        CHECK.dueRow("p is over, q goes on by 10", new int[] {x.crosser(0, 3), x.crosser(1, 3)}, 9, 0);
        // on the way from one span to the next the noise stays
        x = Check.of("spans 2; sleeper a 1 0 0 0; sleeper b 1 0 0 1; crosser p 5 4 1; holds = 8 - noise * span + load * 0;");
        x.send(0);
        x.hours(1);
        CHECK.due("on span 0", x.crosser(0, 3), 0);
        x.hours(3);
        CHECK.dueRow("span 1 bears 4 by its noise", new int[] {x.crosser(0, 3), x.span(1, 0)}, 0, 4);
    }

    private static void nights() {
        SleepBridge x = Check.of("spans 1; sleeper a 9 1 0 0; sleeper b 3 0 0 0; crosser p 1 0 6; crosser q 99 0 1; crosser r 1 0 5;"
                + "wakes = weight * 100; deepens = 2; dawn 9;");
        x.send(0);
        x.send(1);
        x.hours(2);
        CHECK.dueRow("ahead", new int[] {x.crosser(0, 3), x.crosser(1, 3), x.crosser(2, 3), x.sleeper(1, 0), x.count(12)}, 9, -3, -2, 7, 2);
        CHECK.due("night()", x.night(), 2);
        CHECK.dueRow("behind", new int[] {x.crosser(0, 3), x.crosser(1, 3), x.crosser(2, 3), x.sleeper(0, 0), x.sleeper(1, 0), x.count(12)},
                -2, -2, -2, 9, 3, 3);
        CHECK.dueRow("counts", new int[] {x.count(4), x.count(5), x.count(6), x.count(7), x.count(9), x.crosser(0, 4)}, 0, 2, 2, 6, 4, 1);
        CHECK.due("night()", x.night(), 3);
        CHECK.due("night()", x.night(), 4);
    }

    private static void nightFalls() {
        SleepBridge x = Check.of("spans 2; sleeper a 9 1 0 0; sleeper b 9 0 0 1; crosser p 1 1 6; crosser q 1 1 6; crosser r 1 1 6;");
        x.send(0);
        x.hours(1);
        x.send(1);
        x.hours(1);
        x.send(2);
        CHECK.dueRow("where", new int[] {x.crosser(0, 3), x.crosser(1, 3), x.crosser(2, 3), x.count(14)}, 1, 0, -3, 2);
        x.night();
        CHECK.dueRow("who was on a span fell", new int[] {x.crosser(0, 3), x.crosser(1, 3), x.crosser(2, 3), x.count(13), x.count(14)}, 10, 10, -2, 3, 0);
        x.night();
        CHECK.dueRow("and stays so", new int[] {x.crosser(0, 3), x.crosser(1, 3), x.count(13), x.count(5)}, 10, 10, 3, 3);
        x.undo();
        x.undo();
        CHECK.dueRow("undone", new int[] {x.crosser(0, 3), x.crosser(1, 3), x.crosser(2, 3), x.count(13), x.count(5)}, 1, 0, -3, 0, 1);
    }

    private static void undoing() {
        SleepBridge x = Check.of("spans 2; sleeper a 9 1 0 0; sleeper b 30 0 0 1; crosser p 1 1 6; wakes = weight * 100; deepens = 1; dawn 9;");
        CHECK.due("nothing to undo", x.undo(), false);
        x.send(0);
        x.lay(1, 0);
        x.hours(3);
        x.lull(0);
        x.night();
        x.send(7);
        x.hours(0);
        x.lull(0);
        x.lay(1, 0);
        CHECK.due("things done", x.count(9), 5);
        CHECK.dueRow("night", new int[] {x.count(5), x.count(12), x.sleeper(0, 0), x.count(4), x.count(7)}, 2, 3, 9, 0, 0);
        CHECK.dueRow("night undone", new int[] {x.undo() ? 1 : 0, x.count(5), x.count(12), x.sleeper(0, 0), x.count(4)}, 1, 1, 3, 0, 3);
        CHECK.dueRow("lull undone", new int[] {x.undo() ? 1 : 0, x.count(12), x.sleeper(0, 0), x.sleeper(1, 0)}, 1, 2, 9, 33);
        CHECK.dueRow("hours undone", new int[] {x.undo() ? 1 : 0, x.count(4), x.count(6), x.count(12), x.sleeper(1, 0), x.crosser(0, 3)}, 1, 0, 0, 3, 30, -3);
        CHECK.dueRow("lay undone", new int[] {x.undo() ? 1 : 0, x.sleeper(1, 3), x.crosser(0, 3)}, 1, 1, -3);
        CHECK.dueRow("send undone", new int[] {x.undo() ? 1 : 0, x.crosser(0, 3), x.count(9)}, 1, -2, 0);
        CHECK.due("nothing to undo", x.undo(), false);
    }

    private static void undoingAll() {
        SleepBridge x = Check.of("spans 5; sleeper a 9 1 0 0; crosser p 1 1 6; dawn 99;");
        for (int i = 1; i <= 45; i++) {
            x.lay(0, i % 5);
            CHECK.due("things done", x.count(9), Math.min(i, 40));
        }
        x.tell(0, 3);
        for (int i = 44; i >= 5; i--) {
            CHECK.due("undo", x.undo(), true);
            CHECK.due("its span", x.sleeper(0, 3), i % 5);
        }
        CHECK.due("undo of the 41st", x.undo(), false);
        CHECK.dueRow("as behind the fifth", new int[] {x.sleeper(0, 3), x.count(9), x.count(10)}, 0, 0, 1);
        x.hours(2);
        x.hours(3);
        CHECK.dueRow("and on", new int[] {x.undo() ? 1 : 0, x.count(4), x.undo() ? 1 : 0, x.count(4), x.undo() ? 1 : 0}, 1, 2, 1, 0, 0);
    }

    private static void holding() {
        SleepBridge x = Check.of("spans 2; sleeper a 9 1 0 0; sleeper b 30 0 0 1; crosser p 1 1 6; wakes = weight * 100; deepens = 1; dawn 9;");
        CHECK.dueRow("no such slot", new int[] {x.hold(-1) ? 1 : 0, x.hold(3) ? 1 : 0, x.hold(MOST) ? 1 : 0, x.restore(-1) ? 1 : 0, x.restore(3) ? 1 : 0,
            x.restore(LEAST) ? 1 : 0, x.count(11)}, 0, 0, 0, 0, 0, 0, 0);
        CHECK.due("nothing is held", x.restore(0), false);
        x.send(0);
        x.lay(0, 1);
        CHECK.due("hold(0)", x.hold(0), true);
        CHECK.due("hold is no thing done", x.count(9), 2);
        x.hours(2);
        x.tell(0, 5);
        x.tell(1, 6);
        CHECK.due("hold(2)", x.hold(2), true);
        x.night();
        x.feed(0, 0, 0, 0, 0);
        CHECK.due("restore(1)", x.restore(1), false);
        CHECK.due("nothing happened", x.count(9), 4);
        CHECK.due("restore(0)", x.restore(0), true);
        CHECK.dueRow("as held", new int[] {x.crosser(0, 3), x.sleeper(0, 3), x.count(4), x.count(5), x.count(6), x.count(12), x.sleeper(1, 0)},
                -3, 1, 0, 1, 0, 3, 30);
        CHECK.dueRow("told, tape and slots stay, nothing can be undone", new int[] {x.count(10), x.count(8), x.count(11), x.count(9), x.undo() ? 1 : 0},
                2, 20, 2, 0, 0);
        x.hours(1);
        CHECK.due("what is done from then on can be", x.count(9), 1);
        CHECK.due("restore(2)", x.restore(2), true);
        CHECK.dueRow("as held", new int[] {x.crosser(0, 3), x.count(4), x.count(6), x.count(12), x.sleeper(1, 0), x.count(9)}, -3, 2, 2, 2, 32, 0);
        CHECK.due("restore(0) again", x.restore(0), true);
        CHECK.due("hour", x.count(4), 0);
        x.lay(1, 0);
        CHECK.due("hold(0) anew", x.hold(0), true);
        x.night();
        x.lay(1, 1);
        x.restore(0);
        CHECK.dueRow("as held anew", new int[] {x.sleeper(1, 3), x.count(5), x.count(11)}, 0, 1, 2);
    }
}
