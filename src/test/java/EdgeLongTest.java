/** As many calls as an object is used for, of the sorts that add up most. */
public final class EdgeLongTest {
    private static final Check CHECK = new Check();
    private static final int CALLS = 512;

    public static void main(String[] args) {
        CHECK.says("An object is used for at most 512 calls after it has been made; what later calls answer is free.");
        hours();
        nights();
        layAndUndo();
        tolls();
        reads();
        longLaws();
        CHECK.end();
    }

    private static void hours() {
        SleepBridge x = new SleepBridge();
        for (int i = 1; i < CALLS; i++) {
            CHECK.due("hours", x.hours(24), 24 * i);
        }
        CHECK.due("all hours at the 512th call", x.count(6), 24 * (CALLS - 1));
    }

    private static void nights() {
        SleepBridge x = new SleepBridge();
        for (int i = 1; i < CALLS; i++) {
            CHECK.due("night", x.night(), i + 1);
        }
        CHECK.due("things to undo at the 512th call", x.count(9), 40);
    }

    private static void layAndUndo() {
        SleepBridge x = Check.of("spans 2; sleeper a 9 0 0 0;");
        for (int i = 0; i < 120; i++) {
            CHECK.dueRow("lay, lay, undo", new int[] {Check.bit(x.lay(0, 1)), Check.bit(x.lay(0, 0)), Check.bit(x.undo()), Check.bit(x.undo())}, 1, 1, 1, 1);
        }
        CHECK.dueRow("nothing is left", new int[] {x.count(9), x.sleeper(0, 3), Check.bit(x.undo())}, 0, 0, 0);
    }

    private static void tolls() {
        SleepBridge x = Check.of("spans 1; crosser p 0 0 99; crosser q 0 0 99; crosser r 0 0 99; crosser s 0 0 99; crosser t 0 0 99;");
        for (int i = 0; i < 60; i++) {
            for (int c = 0; c < 5; c++) {
                x.send(c);
            }
            x.hours(2);
            x.night();
        }
        CHECK.dueRow("tolls, overs", new int[] {x.count(7), x.count(18), x.crosser(4, 4), x.count(5), x.count(6)}, 60 * 5 * 99, 300, 60, 61, 120);
    }

    private static void reads() {
        SleepBridge x = new SleepBridge();
        String[] texts = {"spans 5;", "spans 4; x", "sleeper a 7 1 1 1;", "spans 0;"};
        for (int i = 0; i < 40; i++) {
            CHECK.due("read", Check.read(x, texts[i % 4]), new int[] {0, 1, 0, 5}[i % 4]);
            CHECK.dueRow("spans, sleepers", new int[] {x.count(0), x.count(1)}, i % 4 < 2 ? 5 : 3, i % 4 < 2 ? 0 : 1);
        }
    }

    private static void longLaws() {
        SleepBridge x = new SleepBridge();
        for (int i = 1; i <= 8; i++) {
            CHECK.due("read", Check.read(x, "sleeper a 7 2 3 1; holds = " + i + "+0".repeat(192) + "+9*" + i + ";"), 0);
            CHECK.dueRow("all of the law counts", new int[] {x.sleeper(0, 5), x.tells(0, 0), x.tells(0, 1)}, 10 * i, 0, 0);
        }
        x = new SleepBridge();
        for (int i = 1; i <= 9; i++) {
            String sum = "0" + "+0".repeat(60) + "+" + i + ";";
            CHECK.due("read", Check.read(x, "sleeper a 7 2 3 1; holds = 1 + " + sum + " wakes = 2 + " + sum + " deepens = " + sum), 0);
            CHECK.dueRow("each law counts", new int[] {x.sleeper(0, 5), x.tells(0, 0), x.tells(0, 1)}, i + 1, i + 2, i);
        }
    }
}
