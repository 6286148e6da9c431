import java.util.Arrays;

/** Promises 1 to 5 at their edges: a new object, the tape, what is read of it, and where its fault is. */
public final class EdgeTapeTest {
    private static final Check CHECK = new Check();
    private static final int BLANKS = 0x20202020;
    private static final int MOST = Integer.MAX_VALUE;
    private static final int LEAST = Integer.MIN_VALUE;

    public static void main(String[] args) {
        newObject();
        newObjectDoesNothing();
        highestFirst();
        behindTheTape();
        moreThan2000();
        refusedFeed();
        textOf2000();
        goingBack();
        goingBackTooFar();
        emptyBehindRead();
        faultNumbers();
        places();
        placeOfTheLatest();
        CHECK.end();
    }

    private static int feedBlanks(SleepBridge x) {
        return x.feed(BLANKS, BLANKS, BLANKS, BLANKS, BLANKS);
    }

    /** Twenty blanks but for one byte. */
    private static int feedOne(SleepBridge x, int at, int value) {
        byte[] bytes = new byte[20];
        Arrays.fill(bytes, (byte) ' ');
        bytes[at] = (byte) value;
        return x.feed(Check.four(bytes, 0), Check.four(bytes, 4), Check.four(bytes, 8), Check.four(bytes, 12), Check.four(bytes, 16));
    }

    /** A tape of blanks; back() takes what is above a multiple of twenty. */
    private static SleepBridge tapeOf(int bytes) {
        SleepBridge x = new SleepBridge();
        for (int has = 0; has < bytes; has += 20) {
            feedBlanks(x);
        }
        x.back(x.count(8) - bytes);
        return x;
    }

    private static void newObject() {
        CHECK.says("Three SPANS, no SLEEPERS.");
        SleepBridge x = new SleepBridge();
        int[] counts = new int[21];
        for (int what = -1; what < 20; what++) {
            counts[what + 1] = x.count(what);
        }
        CHECK.dueRow("count(-1 .. 19)", counts, -1, 3, 0, 0, 0, 0, 1, 0, 0, 0, 0, 0, 0, 0, 0, 0, 0, 0, 0, 0, -1);
        for (int span = 0; span < 3; span++) {
            CHECK.dueRow("span " + span, new int[] {x.span(span, 0), x.span(span, 1), x.span(span, 2), x.span(span, 3), x.dreams(span)}, 0, 0, 0, 0, 0);
        }
        CHECK.dueRow("no fourth span", new int[] {x.span(3, 0), x.span(-1, 0), x.dreams(3), x.dreams(-1)}, -1, -1, -1, -1);
        CHECK.dueRow("no sleeper, no crosser", new int[] {x.sleeper(0, 0), x.sleeper(0, 3), x.sleeper(0, 4), x.sleeper(0, 5), x.crosser(0, 0),
            x.crosser(0, 3), x.tells(0, 0), x.tells(0, 1), x.place()}, -1, -1, -1, -1, -1, -1, -100, -100, -1);
    }

    private static void newObjectDoesNothing() {
        CHECK.says("Three SPANS, no SLEEPERS.");
        SleepBridge x = new SleepBridge();
        CHECK.dueRow("nobody to send, lay, lull", new int[] {Check.bit(x.send(0)), Check.bit(x.lay(0, 1)), x.lull(0), Check.bit(x.undo())}, 0, 0, -1, 0);
        CHECK.dueRow("what would be", new int[] {x.then(99, false, 0, 0), x.then(99, false, 1, 2), x.then(99, false, 1, 3), x.then(99, true, 2, 0),
            x.then(99, true, 3, 0), x.then(99, true, 4, 0), x.then(99, true, 5, 0)}, -100, 0, -100, 0, 0, 0, 0);
        CHECK.dueRow("the best", new int[] {x.weakest(-1), x.weakest(0), x.better(0), x.better(2), x.cheap(0, 0), x.cheap(0, 1), x.cheap(1, 0),
            x.order(-1), x.order(0), x.soon(0), x.start(0), x.missed(0), x.missed(1), x.year(0, 1, 1)},
                0, -1, -2, -2, 0, 0, -2, 0, -1, -1, -1, -2, -2, -1);
        CHECK.dueRow("nothing told", new int[] {x.awake(0, -1), x.awake(0, 0), x.awake(0, 1), x.awake(1, -1), x.ask(0), x.ask(1), x.forget()},
                1, 0, -1, -1, 0, -1, 0);
        CHECK.dueRow("nothing held", new int[] {Check.bit(x.restore(0)), Check.bit(x.restore(1)), Check.bit(x.restore(2))}, 0, 0, 0);
        CHECK.dueRow("hours and nights go by all the same", new int[] {x.hours(24), x.night(), x.hours(1), x.count(6), x.count(9)}, 24, 2, 1, 25, 3);
    }

    private static void highestFirst() {
        CHECK.says("Twenty bytes, the highest of a first, come behind the tape: how many it has.");
        for (int at = 0; at < 20; at++) {
            for (int value : new int[] {'!', 0, 1, 127, 128, 255}) {
                SleepBridge x = new SleepBridge();
                CHECK.due("feed of a byte " + value + " at " + at, feedOne(x, at, value), 20);
                CHECK.dueRow("read, place, bytes", new int[] {x.read(), x.place(), x.count(8)}, 1, at, 0);
            }
        }
    }

    private static void behindTheTape() {
        CHECK.says("Twenty bytes, the highest of a first, come behind the tape: how many it has.");
        for (int has : new int[] {0, 1, 7, 19, 20, 21, 1000, 1979, 1980}) {
            SleepBridge x = tapeOf(has);
            CHECK.due("bytes", x.count(8), has);
            CHECK.due("feed behind " + has, feedOne(x, 3, '!'), has + 20);
            CHECK.dueRow("bytes, read, place", new int[] {x.count(8), x.read(), x.place()}, has + 20, 1, has + 3);
        }
    }

    private static void moreThan2000() {
        CHECK.says("NONE, and nothing comes, if it would have more than 2,000.");
        for (int has = 1979; has <= 2000; has++) {
            SleepBridge x = tapeOf(has);
            int due = has <= 1980 ? has + 20 : -1;
            CHECK.due("feed to " + (has + 20), feedBlanks(x), due);
            CHECK.due("bytes", x.count(8), due == -1 ? has : due);
        }
    }

    private static void refusedFeed() {
        CHECK.says("NONE, and nothing comes, if it would have more than 2,000.");
        for (int has : new int[] {1981, 1990, 1999, 2000}) {
            SleepBridge x = new SleepBridge();
            Check.feed(x, "spans 5;" + " ".repeat(has - 8));
            CHECK.dueRow("feed, feed, bytes", new int[] {x.feed(0, 0, 0, 0, 0), x.feed(-1, -1, -1, -1, -1), x.count(8)}, -1, -1, has);
            CHECK.dueRow("read as it was, spans", new int[] {x.read(), x.place(), x.count(0)}, 0, -1, 5);
            CHECK.due("room again", feedBlanks(x), 20);
        }
    }

    private static void textOf2000() {
        CHECK.says("A TEXT has 2,000 bytes at most.");
        String[] texts = {"spans 5;", "!", "spans", "sleeper a", "spans 3", ""};
        int[][] due = {{0, -1, 5}, {1, 1999, 3}, {1, 2000, 3}, {1, 2000, 3}, {1, 2000, 3}, {0, -1, 3}};
        for (int i = 0; i < texts.length; i++) {
            SleepBridge x = new SleepBridge();
            int[] got = {Check.read(x, " ".repeat(2000 - texts[i].length()) + texts[i]), x.place(), x.count(0)};
            CHECK.dueRow("2,000 bytes, with these at the end: " + texts[i], got, due[i]);
        }
    }

    private static void goingBack() {
        CHECK.says("The last n bytes of the tape go: how many it has.");
        String text = "spans 1; spans 2; spans 4; spans 5; x";
        int[][] rows = {{0, 37, 1, 3}, {1, 36, 0, 5}, {2, 35, 0, 5}, {3, 34, 1, 3}, {10, 27, 0, 4}, {19, 18, 0, 2}, {28, 9, 0, 1}, {36, 1, 1, 3}, {37, 0, 0, 3}};
        for (int[] row : rows) {
            SleepBridge x = new SleepBridge();
            Check.feed(x, text);
            CHECK.dueRow("back, read, spans", new int[] {row[0], x.back(row[0]), x.read(), x.count(0)}, row);
        }
        SleepBridge x = tapeOf(2000);
        CHECK.dueRow("all of a full tape", new int[] {x.back(2000), x.count(8), feedOne(x, 0, '!'), x.read(), x.place()}, 0, 0, 20, 1, 0);
        x = new SleepBridge();
        Check.feed(x, "spans 5; dawn");
        x.back(4);
        Check.feed(x, "spans 2;");
        CHECK.dueRow("what comes is behind what is left", new int[] {x.count(8), x.read(), x.count(0)}, 17, 0, 2);
    }

    private static void goingBackTooFar() {
        CHECK.says("NONE, and nothing goes, if it has not so many, or n is below 0.");
        SleepBridge x = new SleepBridge();
        CHECK.dueRow("an empty tape", new int[] {x.back(1), x.back(-1), x.back(MOST), x.back(LEAST), x.back(0), x.count(8)}, -1, -1, -1, -1, 0, 0);
        for (int has : new int[] {8, 20, 1999, 2000}) {
            x = new SleepBridge();
            Check.feed(x, "spans 5;" + " ".repeat(has - 8));
            int[] got = {x.back(has + 1), x.back(-1), x.back(MOST), x.back(LEAST), x.back(2001), x.back(0), x.count(8)};
            CHECK.dueRow("a tape of " + has, got, -1, -1, -1, -1, -1, has, has);
            CHECK.dueRow("nothing went", new int[] {x.read(), x.count(0)}, 0, 5);
        }
    }

    private static void emptyBehindRead() {
        CHECK.says("The tape, which is empty then, is read: 0, or the number of its FAULT.");
        SleepBridge x = new SleepBridge();
        CHECK.dueRow("an empty tape", new int[] {x.read(), x.count(8), x.place()}, 0, 0, -1);
        CHECK.dueRow("empty behind a sound text", new int[] {Check.read(x, "spans 5;"), x.count(8), x.back(1)}, 0, 0, -1);
        CHECK.due("it stands", x.count(0), 5);
        CHECK.dueRow("empty behind a fault", new int[] {Check.read(x, "spans 5; x"), x.count(8), x.back(1)}, 1, 0, -1);
        CHECK.dueRow("an empty text is one too", new int[] {x.read(), x.place(), x.count(0)}, 0, -1, 3);
    }

    private static void faultNumbers() {
        CHECK.says("The tape, which is empty then, is read: 0, or the number of its FAULT.");
        SleepBridge x = new SleepBridge();
        String[] texts = {"spans 2;", "spans 2", "holds = (((((((1)))))));", "sleeper a 1 1 1 1; crosser a 1 1 1;", "pair a b;", "spans 6;"};
        int[] places = {-1, 7, 14, 27, 5, 6};
        for (int fault = 0; fault < 6; fault++) {
            CHECK.dueRow(texts[fault], new int[] {Check.read(x, texts[fault]), x.place(), x.count(8)}, fault, places[fault], 0);
        }
    }

    private static void places() {
        CHECK.says("The byte of the latest read()'s FAULT; NONE without.");
        SleepBridge x = new SleepBridge();
        CHECK.due("no read yet", x.place(), -1);
        for (int place : new int[] {0, 1, 127, 128, 255, 256, 1998, 1999}) {
            CHECK.dueRow("byte " + place, new int[] {Check.read(x, " ".repeat(place) + "!"), x.place()}, 1, place);
            if (place > 256) {
                x = new SleepBridge();
            }
        }
    }

    private static void placeOfTheLatest() {
        CHECK.says("The byte of the latest read()'s FAULT; NONE without.");
        SleepBridge x = new SleepBridge();
        CHECK.dueRow("a fault", new int[] {Check.read(x, "spans 9;"), x.place(), x.place()}, 5, 6, 6);
        x.hours(1);
        x.feed(0, 0, 0, 0, 0);
        x.back(20);
        x.back(1);
        x.undo();
        CHECK.due("other calls leave it", x.place(), 6);
        CHECK.dueRow("a later fault", new int[] {Check.read(x, "spans 1; x"), x.place()}, 1, 9);
        CHECK.dueRow("none", new int[] {Check.read(x, "spans 1;"), x.place()}, 0, -1);
        CHECK.dueRow("a fault again", new int[] {Check.read(x, "pair a b;"), x.place()}, 4, 5);
        CHECK.dueRow("an empty text", new int[] {x.read(), x.place()}, 0, -1);
    }
}
