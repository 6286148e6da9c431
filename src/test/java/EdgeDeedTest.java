/** Promises 11 to 16, 30 and 31 at their edges: what can be done, how much of it undone, held and gone on from. */
public final class EdgeDeedTest {
    private static final Check CHECK = new Check();
    private static final int MOST = Integer.MAX_VALUE;
    private static final int LEAST = Integer.MIN_VALUE;
    private static final int[] FAR = {-2, -100, 31, 32, 33, 64, 1000, 65536, LEAST, LEAST + 1, MOST - 1, MOST};

    public static void main(String[] args) {
        sending();
        sendingFromAnywhere();
        laying();
        lulling();
        hours();
        nights();
        undoingNothing();
        undoingEach();
        undoingWhoWasOver();
        undoingForty();
        undoingInBetween();
        whatIsNoThingDone();
        holding();
        holdsAll();
        holdsNotTold();
        restoring();
        restoringNothing();
        CHECK.end();
    }

    private static void sending() {
        CHECK.says("SENT: true; false, and nothing happens: it is not at home, no such one.");
        for (int crossers = 0; crossers <= 5; crossers++) {
            StringBuilder text = new StringBuilder("spans 1;");
            for (int c = 0; c < crossers; c++) {
                text.append("crosser ").append((char) ('p' + c)).append(" 1 1 1;");
            }
            SleepBridge x = Check.of(text.toString());
            CHECK.dueRow("none behind the last, none ahead of 0", new int[] {Check.bit(x.send(crossers)), Check.bit(x.send(-1)), x.count(9)}, 0, 0, 0);
            for (int far : FAR) {
                CHECK.due("no such crosser " + far, x.send(far), false);
            }
            for (int c = 0; c < crossers; c++) {
                CHECK.dueRow("sent, and not again", new int[] {Check.bit(x.send(c)), x.crosser(c, 3), Check.bit(x.send(c)), x.count(9)}, 1, -3, 0, c + 1);
            }
        }
    }

    private static void sendingFromAnywhere() {
        CHECK.says("SENT: true; false, and nothing happens: it is not at home, no such one.");
        SleepBridge x = Check.of("spans 2; sleeper a 9 0 0 0; sleeper b 9 0 0 1; crosser p 1 1 1; dawn 20;");
        int[] where = {-3, 0, 1, 9};
        x.send(0);
        for (int i = 0; i < 4; i++) {
            CHECK.dueRow("not at home", new int[] {x.crosser(0, 3), Check.bit(x.send(0)), x.crosser(0, 3), x.count(9)}, where[i], 0, where[i], i + 1);
            x.hours(1);
        }
        x.night();
        CHECK.dueRow("at home again", new int[] {x.crosser(0, 3), Check.bit(x.send(0)), x.crosser(0, 3)}, -2, 1, -3);
        x.hours(1);
        x.night();
        CHECK.dueRow("fallen", new int[] {x.crosser(0, 3), Check.bit(x.send(0)), x.crosser(0, 3)}, 10, 0, 10);
    }

    private static void laying() {
        CHECK.says("LAID to another SPAN: true; false, and nothing happens: it is there, no such ones.");
        for (int spans = 1; spans <= 5; spans++) {
            SleepBridge x = Check.of("spans " + spans + "; sleeper a 9 0 0 0; sleeper b 8 0 0 0;");
            for (int far : FAR) {
                CHECK.dueRow("no such ones", new int[] {Check.bit(x.lay(far, 0)), Check.bit(x.lay(0, far)), Check.bit(x.lay(far, far))}, 0, 0, 0);
            }
            CHECK.dueRow("it is there", new int[] {Check.bit(x.lay(0, 0)), Check.bit(x.lay(1, 0))}, 0, 0);
            CHECK.dueRow("none beside", new int[] {Check.bit(x.lay(0, spans)), Check.bit(x.lay(0, -1)), Check.bit(x.lay(2, 0)), Check.bit(x.lay(-1, 0)),
                x.count(9)}, 0, 0, 0, 0, 0);
            for (int span = spans - 1; span >= 0 && spans > 1; span--) {
                CHECK.dueRow("laid, and not again", new int[] {Check.bit(x.lay(1, span)), x.sleeper(1, 3), x.sleeper(0, 3), x.span(span, 2) & 2,
                    Check.bit(x.lay(1, span)), x.count(9)}, 1, span, 0, 2, 0, spans - span);
            }
        }
    }

    private static void lulling() {
        CHECK.says("LULLED: DEPTH then; -2, and nothing happens: it is asleep, it is DAWN; NONE: no such one.");
        SleepBridge x = Check.of("sleeper a 10 0 0 0; sleeper b 9 0 0 0; sleeper c 8 0 0 0; sleeper d 99 0 0 0; wakes = 100; dawn 2;");
        CHECK.dueRow("asleep", new int[] {x.lull(0), x.lull(3), x.sleeper(0, 0), x.count(9)}, -2, -2, 10, 0);
        CHECK.dueRow("no such one", new int[] {x.lull(4), x.lull(-1), x.count(9)}, -1, -1, 0);
        for (int far : FAR) {
            CHECK.due("no such one " + far, x.lull(far), -1);
        }
        x.hours(1);
        CHECK.dueRow("awake", new int[] {x.lull(0), x.lull(1), x.lull(2), x.lull(3), x.count(12), x.count(9)}, 1, 0, 0, 90, 15, 5);
        CHECK.dueRow("asleep again", new int[] {x.lull(0), x.lull(3), x.sleeper(0, 0), x.sleeper(3, 0), x.count(9)}, -2, -2, 1, 90, 5);
        x.hours(1);
        CHECK.dueRow("dawn", new int[] {x.lull(0), x.lull(3), x.lull(4), x.lull(-1), x.count(12), x.sleeper(3, 0), x.count(9)}, -2, -2, -1, -1, 0, 90, 6);
    }

    private static void hours() {
        CHECK.says("n HOURS (0 .. 24; 0 is no thing done) go by: the hour of the night then; NONE, and nothing happens: no such n.");
        SleepBridge x = Check.of("spans 1; sleeper a 9 0 0 0; deepens = 1; dawn 99;");
        CHECK.dueRow("0", new int[] {x.hours(0), x.count(4), x.count(6), x.count(9), x.sleeper(0, 0)}, 0, 0, 0, 0, 9);
        CHECK.dueRow("-1 and 25", new int[] {x.hours(-1), x.hours(25), x.count(4), x.count(6), x.count(9), x.sleeper(0, 0)}, -1, -1, 0, 0, 0, 9);
        for (int far : FAR) {
            CHECK.due("no such n " + far, x.hours(far), -1);
        }
        CHECK.dueRow("1 and 24", new int[] {x.hours(1), x.hours(24), x.count(4), x.count(6), x.count(9), x.sleeper(0, 0)}, 1, 25, 25, 25, 2, 34);
        CHECK.dueRow("the hour of the night", new int[] {x.night(), x.hours(0), x.hours(23), x.count(6), x.hours(0), x.count(9)}, 2, 0, 23, 48, 23, 4);
        x = new SleepBridge();
        for (int n = 1; n <= 24; n++) {
            CHECK.due("hours(" + n + ")", x.hours(n), n * (n + 1) / 2);
        }
    }

    private static void nights() {
        CHECK.says("A new NIGHT: how many nights there were (the first one, too).");
        SleepBridge x = Check.of("sleeper a 9 0 0 0;");
        CHECK.due("the first", x.count(5), 1);
        for (int night = 2; night <= 60; night++) {
            CHECK.dueRow("night", new int[] {x.night(), x.count(5)}, night, night);
        }
        Check.read(x, "sleeper a 9 0 0 0;");
        CHECK.dueRow("a new text begins with the first", new int[] {x.count(5), x.night()}, 1, 2);
        x = new SleepBridge();
        CHECK.due("of a new object", x.night(), 2);
    }

    private static void undoingNothing() {
        CHECK.says("The last thing done (send, lay, lull, hours, night) is undone: true; false: there is none (the last 40 can be).");
        SleepBridge x = new SleepBridge();
        CHECK.dueRow("a new object", new int[] {Check.bit(x.undo()), x.count(9)}, 0, 0);
        x.hours(1);
        x.read();
        CHECK.dueRow("behind a read", new int[] {Check.bit(x.undo()), x.count(9), x.count(4)}, 0, 0, 0);
        x.hours(1);
        CHECK.dueRow("one thing", new int[] {Check.bit(x.undo()), x.count(4), Check.bit(x.undo()), Check.bit(x.undo()), x.count(4)}, 1, 0, 0, 0, 0);
    }

    private static void undoingEach() {
        CHECK.says("The last thing done (send, lay, lull, hours, night) is undone: true; false: there is none (the last 40 can be).");
        SleepBridge x = Check.of("spans 2; sleeper a 20 1 0 0; sleeper b 50 0 0 1; crosser p 5 1 7; crosser q 5 1 7; wakes = weight * 100; deepens = 1; dawn 30;");
        x.send(0);
        CHECK.dueRow("send", new int[] {x.crosser(0, 3), Check.bit(x.undo()), x.crosser(0, 3), x.count(9)}, -3, 1, -2, 0);
        x.lay(0, 1);
        CHECK.dueRow("lay", new int[] {x.sleeper(0, 3), Check.bit(x.undo()), x.sleeper(0, 3), x.count(9)}, 1, 1, 0, 0);
        x.send(0);
        x.hours(4);
        CHECK.dueRow("hours", new int[] {x.count(4), x.count(6), x.crosser(0, 3), x.count(12), x.sleeper(1, 0)}, 4, 4, -3, 2, 54);
        CHECK.dueRow("undone", new int[] {Check.bit(x.undo()), x.count(4), x.count(6), x.crosser(0, 3), x.count(12), x.sleeper(1, 0)}, 1, 0, 0, -3, 3, 50);
        x.hours(1);
        x.lull(0);
        CHECK.dueRow("lull", new int[] {x.sleeper(0, 0), x.sleeper(0, 4), Check.bit(x.undo()), x.sleeper(0, 0), x.sleeper(0, 4)}, 11, 1, 1, 20, 0);
        x.lay(1, 0);
        x.lay(0, 1);
        x.send(1);
        x.hours(3);
        CHECK.dueRow("ahead of the night", new int[] {x.crosser(0, 3), x.crosser(1, 3), x.count(12), x.count(4), x.count(6)}, 0, 0, 2, 4, 4);
        x.night();
        CHECK.dueRow("night", new int[] {x.crosser(0, 3), x.crosser(1, 3), x.count(12), x.count(4), x.count(5), x.count(13)}, 10, 10, 3, 0, 2, 3);
        CHECK.dueRow("undone", new int[] {Check.bit(x.undo()), x.crosser(0, 3), x.crosser(1, 3), x.count(12), x.count(4), x.count(5), x.count(13), x.sleeper(0, 3)},
                1, 0, 0, 2, 4, 1, 0, 1);
    }

    private static void undoingWhoWasOver() {
        CHECK.says("The last thing done (send, lay, lull, hours, night) is undone: true; false: there is none (the last 40 can be).");
        SleepBridge x = Check.of("spans 1; sleeper a 20 0 0 0; crosser p 5 1 7; crosser q 5 1 9; dawn 30;");
        x.send(0);
        x.send(1);
        x.hours(2);
        CHECK.dueRow("over", new int[] {x.crosser(0, 3), x.crosser(0, 4), x.crosser(1, 4), x.count(7), x.count(18)}, 9, 1, 1, 16, 2);
        x.undo();
        CHECK.dueRow("never over", new int[] {x.crosser(0, 3), x.crosser(0, 4), x.crosser(1, 4), x.count(7), x.count(18)}, -3, 0, 0, 0, 0);
        x.hours(2);
        x.night();
        x.undo();
        CHECK.dueRow("over again", new int[] {x.crosser(0, 3), x.crosser(0, 4), x.crosser(1, 4), x.count(7), x.count(18)}, 9, 1, 1, 16, 2);
    }

    private static void undoingForty() {
        CHECK.says("The last thing done (send, lay, lull, hours, night) is undone: true; false: there is none (the last 40 can be).");
        for (int things = 38; things <= 85; things += things < 43 || things > 78 ? 1 : 5) {
            SleepBridge x = new SleepBridge();
            for (int i = 0; i < things; i++) {
                x.hours(1);
                CHECK.due("things that can be undone", x.count(9), Math.min(40, i + 1));
            }
            int most = Math.min(40, things);
            for (int i = 1; i <= most; i++) {
                CHECK.dueRow("undo " + i + " of " + things, new int[] {Check.bit(x.undo()), x.count(4), x.count(9)}, 1, things - i, most - i);
            }
            CHECK.dueRow("none is left of " + things, new int[] {Check.bit(x.undo()), x.count(4), x.count(9)}, 0, things - most, 0);
        }
    }

    private static void undoingInBetween() {
        CHECK.says("The last thing done (send, lay, lull, hours, night) is undone: true; false: there is none (the last 40 can be).");
        SleepBridge x = new SleepBridge();
        for (int i = 0; i < 60; i++) {
            x.hours(1);
        }
        for (int i = 0; i < 15; i++) {
            x.undo();
        }
        CHECK.dueRow("25 left", new int[] {x.count(4), x.count(9)}, 45, 25);
        for (int i = 0; i < 20; i++) {
            x.hours(2);
        }
        CHECK.dueRow("forty again", new int[] {x.count(4), x.count(9)}, 85, 40);
        for (int i = 0; i < 20; i++) {
            x.undo();
        }
        CHECK.dueRow("the newer ones", new int[] {x.count(4), x.count(9)}, 45, 20);
        for (int i = 0; i < 20; i++) {
            x.undo();
        }
        CHECK.dueRow("the older ones", new int[] {x.count(4), x.count(9), Check.bit(x.undo())}, 25, 0, 0);
    }

    private static void whatIsNoThingDone() {
        CHECK.says("The last thing done (send, lay, lull, hours, night) is undone: true; false: there is none (the last 40 can be).");
        SleepBridge x = Check.of("spans 2; sleeper a 20 0 0 0; crosser p 5 1 7;");
        x.send(0);
        x.tell(0, 20);
        x.tell(1, 3);
        x.forget();
        x.tell(0, 20);
        x.hold(0);
        x.feed(0, 0, 0, 0, 0);
        x.back(20);
        Check.read(x, "x");
        x.hours(0);
        x.hours(25);
        x.send(0);
        x.lay(0, 0);
        x.lull(0);
        x.restore(1);
        x.then(9, false, 0, 0);
        x.order(-1);
        x.year(0, 9, 9);
        CHECK.dueRow("one thing was done", new int[] {x.count(9), Check.bit(x.undo()), x.crosser(0, 3), x.count(10), x.count(11), Check.bit(x.undo())}, 1, 1, -2, 1, 1, 0);
    }

    private static void holding() {
        CHECK.says("All that goes on (not what is TOLD, nor the tape) is held in a SLOT (0 .. 2): true; false: no such one.");
        SleepBridge x = Check.of("spans 2; sleeper a 20 0 0 0;");
        CHECK.dueRow("-1 and 3", new int[] {Check.bit(x.hold(-1)), Check.bit(x.hold(3)), x.count(11)}, 0, 0, 0);
        for (int far : FAR) {
            CHECK.due("no such slot " + far, x.hold(far), false);
        }
        CHECK.dueRow("0, 1, 2", new int[] {Check.bit(x.hold(0)), x.count(11), Check.bit(x.hold(2)), x.count(11), Check.bit(x.hold(1)), x.count(11)}, 1, 1, 1, 2, 1, 3);
        CHECK.dueRow("again", new int[] {Check.bit(x.hold(0)), x.count(11), x.count(9)}, 1, 3, 0);
        x = new SleepBridge();
        CHECK.dueRow("of a new object", new int[] {Check.bit(x.hold(2)), x.hours(3), Check.bit(x.restore(2)), x.count(4)}, 1, 3, 1, 0);
    }

    private static int[] all(SleepBridge x) {
        return new int[] {x.count(4), x.count(5), x.count(6), x.count(7), x.count(12), x.count(13), x.count(18), x.sleeper(0, 0), x.sleeper(1, 0), x.sleeper(0, 3),
            x.sleeper(1, 3), x.crosser(0, 3), x.crosser(1, 3), x.crosser(0, 4), x.crosser(1, 4)};
    }

    private static void holdsAll() {
        CHECK.says("All that goes on (not what is TOLD, nor the tape) is held in a SLOT (0 .. 2): true; false: no such one.");
        for (int slot = 0; slot < 3; slot++) {
            SleepBridge x = Check.of("spans 2; sleeper a 20 1 0 0; sleeper b 50 0 0 1; crosser p 5 1 7; crosser q 5 1 9; wakes = weight * 100; deepens = 1; dawn 9;");
            x.lay(1, 0);
            x.lay(0, 1);
            x.lay(1, 1);
            x.lay(0, 0);
            x.send(0);
            x.hours(3);
            x.lull(0);
            x.hold(slot);
            int[] held = all(x);
            CHECK.dueRow("as it is held", held, 3, 1, 3, 0, 3, 0, 0, 11, 53, 0, 1, -3, -2, 0, 0);
            x.lay(0, 1);
            x.lay(1, 0);
            x.hours(2);
            x.send(1);
            x.hours(2);
            x.night();
            x.send(1);
            x.hours(3);
            CHECK.due("it is other then", java.util.Arrays.equals(all(x), held), false);
            CHECK.due("restore", x.restore(slot), true);
            CHECK.dueRow("as it was held in " + slot, all(x), held);
        }
        // over, tolls and nights are held too
        SleepBridge x = Check.of("spans 1; sleeper a 20 0 0 0; crosser p 5 1 7; dawn 9;");
        x.send(0);
        x.hours(2);
        x.night();
        x.send(0);
        x.hours(2);
        x.hold(1);
        x.night();
        x.send(0);
        x.hours(2);
        x.night();
        x.send(0);
        x.hours(1);
        x.night();
        CHECK.dueRow("later", new int[] {x.count(5), x.count(6), x.count(7), x.count(18), x.crosser(0, 3), x.crosser(0, 4)}, 5, 7, 21, 3, 10, 3);
        x.restore(1);
        CHECK.dueRow("as held", new int[] {x.count(5), x.count(6), x.count(7), x.count(18), x.crosser(0, 3), x.crosser(0, 4)}, 2, 4, 14, 2, 9, 2);
    }

    private static void holdsNotTold() {
        CHECK.says("All that goes on (not what is TOLD, nor the tape) is held in a SLOT (0 .. 2): true; false: no such one.");
        SleepBridge x = Check.of("spans 2; sleeper a 20 0 0 0;");
        x.tell(0, 20);
        Check.feed(x, "spans 4;");
        x.hold(0);
        x.tell(0, 20);
        x.tell(1, 0);
        Check.feed(x, "spans 5;");
        x.restore(0);
        CHECK.dueRow("told and the tape stay as they are", new int[] {x.count(10), x.awake(3, -1), x.count(8), x.read(), x.count(0)}, 3, 1, 16, 0, 5);
        x = Check.of("spans 2; sleeper a 20 0 0 0;");
        x.tell(0, 20);
        Check.feed(x, "spans 4;");
        x.hold(0);
        x.forget();
        x.back(8);
        x.restore(0);
        CHECK.dueRow("nor do they come back", new int[] {x.count(10), x.count(8)}, 0, 0);
    }

    private static void restoring() {
        CHECK.says("It goes on from what a SLOT holds (that stays there; nothing can be undone then): true; false, and nothing happens: no such one, nothing is held.");
        SleepBridge x = Check.of("spans 2; sleeper a 20 0 0 0; deepens = 1;");
        x.hours(1);
        x.hold(0);
        x.hours(1);
        x.hold(1);
        x.hours(1);
        x.hold(2);
        x.hours(1);
        int[] order = {0, 2, 1, 1, 0, 2};
        for (int slot : order) {
            CHECK.dueRow("restore " + slot, new int[] {Check.bit(x.restore(slot)), x.count(4), x.sleeper(0, 0), x.count(11), x.count(9), Check.bit(x.undo())},
                    1, slot + 1, slot + 21, 3, 0, 0);
            x.hours(5);
            CHECK.dueRow("on from it", new int[] {x.count(4), x.sleeper(0, 0), x.count(9)}, slot + 6, slot + 26, 1);
        }
        x.restore(0);
        x.hours(2);
        CHECK.dueRow("what is done from then on can be undone", new int[] {Check.bit(x.undo()), x.count(4), Check.bit(x.undo()), x.count(4)}, 1, 1, 0, 1);
        x.hold(0);
        x.hours(3);
        x.hold(0);
        x.hours(3);
        CHECK.dueRow("held anew", new int[] {Check.bit(x.restore(0)), x.count(4)}, 1, 4);
    }

    private static void restoringNothing() {
        CHECK.says("It goes on from what a SLOT holds (that stays there; nothing can be undone then): true; false, and nothing happens: no such one, nothing is held.");
        SleepBridge x = Check.of("spans 2; sleeper a 20 0 0 0;");
        x.hours(1);
        CHECK.dueRow("nothing is held", new int[] {Check.bit(x.restore(0)), Check.bit(x.restore(1)), Check.bit(x.restore(2)), x.count(4), x.count(9)}, 0, 0, 0, 1, 1);
        x.hold(1);
        x.hours(1);
        CHECK.dueRow("not in these", new int[] {Check.bit(x.restore(0)), Check.bit(x.restore(2)), Check.bit(x.restore(-1)), Check.bit(x.restore(3)), x.count(4), x.count(9)},
                0, 0, 0, 0, 2, 2);
        for (int far : FAR) {
            CHECK.due("no such slot " + far, x.restore(far), false);
        }
        CHECK.dueRow("nothing happened", new int[] {x.count(4), x.count(9), Check.bit(x.undo()), x.count(4)}, 2, 2, 1, 1);
        Check.read(x, "spans 2;");
        CHECK.dueRow("a text empties the slots", new int[] {Check.bit(x.restore(1)), x.count(11)}, 0, 0);
        x.hold(1);
        Check.read(x, "spans 2; x");
        CHECK.dueRow("a fault does not", new int[] {Check.bit(x.restore(1)), x.count(11)}, 1, 1);
    }
}
