import java.nio.charset.StandardCharsets;
import java.util.Arrays;

/** Counts answers, prints each that is not the due one, and ends the test with exit code 1 if there was one. */
final class Check {
    private int asked;
    private int wrong;
    private String sentence = "";

    /** The document's words that the next answers hold to; QuoteTest looks whether the document has them. */
    void says(String words) {
        sentence = " (the document: " + words + ")";
    }

    void due(String call, long got, long want) {
        asked++;
        if (got != want) {
            wrong++;
            System.out.println(call + " answered " + got + ", due is " + want + sentence);
        }
    }

    void due(String call, boolean got, boolean want) {
        due(call, got ? 1 : 0, want ? 1 : 0);
    }

    /** Many answers of one sort, told in a row. */
    void dueRow(String call, int[] got, int... want) {
        asked++;
        if (!Arrays.equals(got, want)) {
            wrong++;
            System.out.println(call + " answered " + Arrays.toString(got) + ", due is " + Arrays.toString(want) + sentence);
        }
    }

    static int bit(boolean answer) {
        return answer ? 1 : 0;
    }

    int wrong() {
        return wrong;
    }

    void end() {
        System.out.println(wrong == 0 ? "all " + asked + " answers are as due" : wrong + " of " + asked + " answers are not as due");
        if (wrong != 0) {
            System.exit(1);
        }
    }

    /** Puts a text behind the tape: whole twenties, and what is too much goes back. */
    static void feed(SleepBridge bridge, String text) {
        feed(bridge, text.getBytes(StandardCharsets.ISO_8859_1));
    }

    static void feed(SleepBridge bridge, byte[] text) {
        int whole = (text.length + 19) / 20 * 20;
        byte[] padded = Arrays.copyOf(text, whole);
        for (int i = 0; i < whole; i += 20) {
            bridge.feed(four(padded, i), four(padded, i + 4), four(padded, i + 8), four(padded, i + 12), four(padded, i + 16));
        }
        bridge.back(whole - text.length);
    }

    static int four(byte[] bytes, int at) {
        return (bytes[at] & 255) << 24 | (bytes[at + 1] & 255) << 16 | (bytes[at + 2] & 255) << 8 | bytes[at + 3] & 255;
    }

    static int read(SleepBridge bridge, String text) {
        feed(bridge, text);
        return bridge.read();
    }

    /** A bridge of a text that has no fault. */
    static SleepBridge of(String text) {
        SleepBridge bridge = new SleepBridge();
        int fault = read(bridge, text);
        if (fault != 0) {
            System.out.println("fault " + fault + " at " + bridge.place() + " in a text of a test: " + text);
            System.exit(1);
        }
        return bridge;
    }
}
