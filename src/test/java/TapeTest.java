/** Promises 1 to 5 but for the faults: the tape, and what a read changes. */
public final class TapeTest {
    private static final Check CHECK = new Check();

    public static void main(String[] args) {
        newObject();
        feeding();
        goingBack();
        reading();
        faultChangesNothing();
        soundTextTakesPlace();
        CHECK.end();
    }

    private static void newObject() {
        SleepBridge x = new SleepBridge();
        int[] counts = new int[20];
        for (int what = 0; what < 20; what++) {
            counts[what] = x.count(what);
        }
        CHECK.dueRow("count of a new object", counts, 3, 0, 0, 0, 0, 1, 0, 0, 0, 0, 0, 0, 0, 0, 0, 0, 0, 0, 0, -1);
        CHECK.due("span(2, 0)", x.span(2, 0), 0);
        CHECK.due("span(3, 0)", x.span(3, 0), -1);
        CHECK.due("place()", x.place(), -1);
        CHECK.due("hours(12)", x.hours(12), 12);
        CHECK.due("NONE", SleepBridge.NONE, -1);
    }

    private static void feeding() {
        SleepBridge x = new SleepBridge();
        // "span" "s 4;" and blanks
        CHECK.due("feed", x.feed(0x7370616e, 0x7320343b, 0x20202020, 0x09090909, 0x0a0d0a0d), 20);
        CHECK.due("read", x.read(), 0);
        CHECK.due("spans", x.count(0), 4);
        for (int i = 1; i <= 100; i++) {
            CHECK.due("feed " + i, x.feed(0x20202020, 0x20202020, 0x20202020, 0x20202020, 0x20202020), 20 * i);
        }
        CHECK.due("feed 101", x.feed(0, 0, 0, 0, 0), -1);
        CHECK.due("bytes", x.count(8), 2000);
        CHECK.due("back(19)", x.back(19), 1981);
        CHECK.due("feed to 2001", x.feed(0, 0, 0, 0, 0), -1);
        CHECK.due("bytes", x.count(8), 1981);
        CHECK.due("back(1)", x.back(1), 1980);
        CHECK.due("feed to 2000", x.feed(0x20202020, 0x20202020, 0x20202020, 0x20202020, 0x2020203b), 2000);
        CHECK.due("read of 2000 bytes", x.read(), 1);
        CHECK.due("place", x.place(), 1999);
        CHECK.due("feed of bytes above 127", x.feed(0xffffffff, 0x80808080, 0, 0, 0), 20);
        CHECK.due("read", x.read(), 1);
        CHECK.due("place", x.place(), 0);
    }

    private static void goingBack() {
        SleepBridge x = new SleepBridge();
        CHECK.due("back(0) of nothing", x.back(0), 0);
        CHECK.due("back(1) of nothing", x.back(1), -1);
        Check.feed(x, "spans 4; spans 5;");
        CHECK.due("bytes", x.count(8), 17);
        CHECK.due("back(-1)", x.back(-1), -1);
        CHECK.due("back(least)", x.back(Integer.MIN_VALUE), -1);
        CHECK.due("back(18)", x.back(18), -1);
        CHECK.due("back(most)", x.back(Integer.MAX_VALUE), -1);
        CHECK.due("back(0)", x.back(0), 17);
        CHECK.due("back(9)", x.back(9), 8);
        CHECK.due("read", x.read(), 0);
        CHECK.due("spans", x.count(0), 4);
        Check.feed(x, "dawn 3;");
        CHECK.due("back(7)", x.back(7), 0);
        CHECK.due("read", x.read(), 0);
        CHECK.due("spans of an empty text", x.count(0), 3);
    }

    private static void reading() {
        SleepBridge x = new SleepBridge();
        CHECK.due("read of nothing", x.read(), 0);
        CHECK.due("place", x.place(), -1);
        CHECK.due("read", Check.read(x, "spans 2; dawn"), 1);
        CHECK.due("bytes", x.count(8), 0);
        CHECK.due("place", x.place(), 13);
        CHECK.due("place again", x.place(), 13);
        Check.feed(x, "spans 2;");
        CHECK.due("place while feeding", x.place(), 13);
        CHECK.due("read", x.read(), 0);
        CHECK.due("bytes", x.count(8), 0);
        CHECK.due("place", x.place(), -1);
    }

    private static void faultChangesNothing() {
        SleepBridge x = Check.of("spans 2; sleeper a 9 1 2 1; crosser c 1 2 3; seed 4;");
        x.send(0);
        x.hours(2);
        x.hold(1);
        x.tell(0, 5);
        String[] unsound = {"spans 4; sleeper q 1 1 1 1; holds = 7; x", "spans 9;", "sleeper a 1 1 1 1; sleeper a 1 1 1 1;", "pair a b;",
            "spans 1; sleeper z 1 1 1 1;"};
        for (String text : unsound) {
            CHECK.due("has a fault: " + text, Check.read(x, text) != 0, true);
            CHECK.dueRow("all stands", new int[] {x.count(0), x.count(1), x.count(3), x.count(4), x.count(9), x.count(10), x.count(11),
                x.sleeper(0, 0), x.sleeper(0, 5), x.span(1, 0), x.crosser(0, 2), x.crosser(0, 3)}, 2, 1, 1, 2, 2, 1, 1, 9, 9, 9, 3, -3);
        }
        CHECK.due("restore", x.restore(1), true);
    }

    private static void soundTextTakesPlace() {
        SleepBridge x = Check.of("spans 1; sleeper a 50 1 2 0; crosser c 1 2 3; bonus 9; dawn 50; seed 4; holds = 1; wakes = 2; deepens = 3;");
        x.send(0);
        x.hours(2);
        x.night();
        x.hold(1);
        x.tell(0, 5);
        CHECK.dueRow("ahead", new int[] {x.count(5), x.count(6), x.count(7), x.count(9), x.count(10), x.count(11), x.count(18)}, 2, 2, 3, 3, 1, 1, 1);
        CHECK.due("read", Check.read(x, "sleeper u 7 1 2 0; sleeper v 6 1 2 0; pair u v; crosser d 8 1 4;"), 0);
        CHECK.dueRow("count", new int[] {x.count(0), x.count(1), x.count(2), x.count(3), x.count(4), x.count(5), x.count(6), x.count(7), x.count(8),
            x.count(9), x.count(10), x.count(11), x.count(12), x.count(13), x.count(18)}, 3, 2, 1, 1, 0, 1, 0, 0, 0, 0, 0, 0, 3, 0, 0);
        CHECK.due("holds is depth again, bonus 5", x.span(0, 0), 7 + 6 + 5);
        CHECK.due("wakes is 0 again", x.tells(0, 0), 0);
        CHECK.due("deepens is 0 again", x.tells(0, 1), 0);
        CHECK.due("undo", x.undo(), false);
        CHECK.due("restore", x.restore(1), false);
        CHECK.due("crosser is at home", x.crosser(0, 3), -2);
        CHECK.due("never over", x.crosser(0, 4), 0);
        CHECK.due("dawn is 12 again", x.then(11, true, 2, 0), 2);
        CHECK.due("dawn is 12 again", x.then(12, true, 2, 0), 0);
    }
}
