/** Terms II: what laws tell, what a sleeper holds, what a span bears (promises 6, 8, 9). */
public final class LawTest {
    private static final Check CHECK = new Check();

    /** What a sleeper holds by a law. */
    private static void holds(String law, int want) {
        SleepBridge x = Check.of("sleeper a 7 2 3 1; holds = " + law + ";");
        CHECK.due("holds = " + law, x.sleeper(0, 5), want);
        CHECK.due("span bears by " + law, x.span(1, 0), want);
    }

    private static void tells(String law, int wakes, int deepens) {
        SleepBridge x = Check.of("sleeper a 7 2 3 1; wakes = " + law + "; deepens = " + law + ";");
        CHECK.due("wakes = " + law, x.tells(0, 0), wakes);
        CHECK.due("deepens = " + law, x.tells(0, 1), deepens);
    }

    public static void main(String[] args) {
        sums();
        ifs();
        byZero();
        held();
        variables();
        lastOne();
        longest();
        CHECK.end();
    }

    private static void sums() {
        holds("1 + 2 * 3", 7);
        holds("(1 + 2) * 3", 9);
        holds("20 - 5 - 3", 12);
        holds("20 - (5 - 3)", 18);
        holds("40 / 5 / 2", 4);
        holds("40 / (5 / 2)", 20);
        holds("40 / 5 * 2", 16);
        holds("7 * 9 / 4 * 2", 30);
        holds("7 / 2", 3);
        holds("50 + (0 - 7) / 2", 47);
        holds("50 + 7 / (0 - 2)", 47);
        holds("50 - 2 * 3 * 4 + 6 / 4", 27);
        holds("((((((8))))))", 8);
        holds("1+2*(3+4*(5-(6-(7-(8/2)))))", 23);
        holds("0099", 99);
        // 32 bits that wrap
        holds("if 9999 * 9999 * 9999 < 0 then 11 else 22", 11);
        holds("if 2048 * 1024 * 1024 < 0 then 11 else 22", 11);
        holds("if 2048 * 1024 * 1024 - 1 < 0 then 11 else 22", 22);
        holds("if 2048 * 1024 * 1024 / (0 - 1) < 0 then 11 else 22", 11);
        holds("4096 * 1024 * 1024 + 5", 5);
    }

    private static void ifs() {
        holds("if 1 < 2 then 3 else 4", 3);
        holds("if 2 < 2 then 3 else 4", 4);
        holds("if 3 < 2 then 3 else 4", 4);
        holds("if 1 < 2 then 3 else if 1 < 2 then 4 else 5", 3);
        holds("if 2 < 2 then 3 else if 1 < 2 then 4 else 5", 4);
        holds("if 2 < 2 then 3 else if 2 < 1 then 4 else 5", 5);
        holds("if 9 < 1 then 1 else if 9 < 2 then 2 else if 9 < 3 then 3 else if 9 < 4 then 4 else 5", 5);
        holds("if 9 < 1 then 1 else if 9 < 2 then 2 else if 9 < 3 then 3 else if 9 < 10 then 4 else 5", 4);
        holds("if 0 - 5 < 0 - 4 then 1 + 2 * 3 else 9", 7);
        holds("if 1 + 1 < 1 + 2 then depth else 9", 7);
    }

    private static void byZero() {
        holds("7 + 1 / 0", 0);
        holds("0 * (1 / 0) + 9", 0);
        holds("0 / 5 + 8", 8);
        holds("9 + 8 / (depth - 7)", 0);
        holds("if 1 < 2 then 5 else 1 / 0", 5);
        holds("if 2 < 1 then 1 / 0 else 5", 5);
        holds("if 1 < 2 then 1 / 0 else 5", 0);
        holds("if 1 / 0 < 1 then 5 else 6", 0);
        holds("if 1 < 1 / 0 then 5 else 6", 0);
        holds("if 1 < 2 then 5 else if 1 / 0 < 1 then 6 else 7", 5);
        holds("if 2 < 1 then 5 else if 1 / 0 < 1 then 6 else 7", 0);
        tells("5 / hour", 0, 0);
    }

    private static void held() {
        holds("0 - 1", 0);
        holds("99", 99);
        holds("100", 99);
        holds("9999", 99);
        tells("0", 0, 0);
        tells("9", 9, 9);
        tells("10", 10, 9);
        tells("100", 100, 9);
        tells("101", 100, 9);
        tells("0 - 9", 0, -9);
        tells("0 - 10", 0, -9);
        tells("0 - 9999", 0, -9);
    }

    private static void variables() {
        String[] names = {"depth", "weight", "wage", "which", "span", "beside", "hour", "noise", "load"};
        int[] wants = {7, 2, 3, 1, 1, 2, 2, 9, 4};
        for (int i = 0; i < names.length; i++) {
            // q is on span 0, p on span 1, r is sent, s at home, a is sleeper 1; d beside it is awake
            SleepBridge x = Check.of("spans 3; sleeper z 1 1 1 0; sleeper a 7 2 3 1; sleeper b 5 1 1 1; sleeper c 5 1 1 1; sleeper d 1 9 1 1;"
                    + "crosser p 4 3 0; crosser q 5 6 0; crosser r 99 1 0; crosser s 8 2 0; dawn 9;"
                    + "holds = 50; wakes = if hour < 1 then (weight / 9) * 100 else if hour < 2 then 0 else " + names[i] + ";");
            x.send(0);
            x.hours(1);
            x.send(1);
            x.hours(1);
            x.send(2);
            CHECK.dueRow("where they are", new int[] {x.crosser(0, 3), x.crosser(1, 3), x.crosser(2, 3), x.count(12)}, 1, 0, -3, 15);
            CHECK.due(names[i], x.tells(1, 0), wants[i]);
        }
        SleepBridge x = Check.of("sleeper a 7 2 3 1; sleeper b 7 2 3 1; sleeper c 7 2 3 0; holds = beside * 10 + span;");
        CHECK.dueRow("beside", new int[] {x.sleeper(0, 5), x.sleeper(1, 5), x.sleeper(2, 5)}, 11, 11, 0);
        x.lay(2, 1);
        CHECK.dueRow("beside", new int[] {x.sleeper(0, 5), x.sleeper(1, 5), x.sleeper(2, 5)}, 21, 21, 21);
    }

    private static void lastOne() {
        SleepBridge x = Check.of("holds = 1; sleeper a 7 2 3 1; holds = 2; wakes = 3; wakes = 4; deepens = 5; deepens = 6; holds = 3;");
        CHECK.dueRow("the last of each", new int[] {x.sleeper(0, 5), x.tells(0, 0), x.tells(0, 1)}, 3, 4, 6);
        x = Check.of("spans 2; spans 4; dawn 3; dawn 5; bonus 1; bonus 7; sleeper a 1 0 0 0; sleeper b 1 0 0 0; pair a b; seed 5; seed 1; wakes = 53;");
        CHECK.dueRow("the last of each", new int[] {x.count(0), x.span(0, 0), x.then(4, true, 2, 0), x.then(5, true, 2, 0)}, 4, 9, 2, 0);
        x.hours(1);
        CHECK.due("seed 1, not 5", x.count(12), 1);
    }

    /** 400 tokens are one law, and may be so again and again. */
    private static void longest() {
        SleepBridge x = new SleepBridge();
        for (int i = 1; i <= 4; i++) {
            CHECK.due("read", Check.read(x, "sleeper a 7 2 3 1; holds = " + i + "+0".repeat(192) + "+9*" + i + ";"), 0);
            CHECK.due("all of it counts", x.sleeper(0, 5), 10 * i);
            CHECK.due("read", Check.read(x, "sleeper a 7 2 3 1; deepens = " + i + "+0".repeat(192) + "-2*" + i + ";"), 0);
            CHECK.dueRow("the others are as not told", new int[] {x.sleeper(0, 5), x.tells(0, 0), x.tells(0, 1)}, 7, 0, -i);
        }
        CHECK.due("read", Check.read(x, "sleeper a 7 2 3 1;" + "holds=1;wakes=2;deepens=3;".repeat(32) + "holds=7;"), 0);
        CHECK.dueRow("the last of many", new int[] {x.sleeper(0, 5), x.tells(0, 0), x.tells(0, 1)}, 7, 2, 3);
        // as many values wait as can: six brackets, each behind a sum and a product
        x = Check.of("sleeper a 7 2 3 1; holds = if 5 < 1 + 1 * (1 + 1 * (1 + 1 * (1 + 1 * (1 + 1 * (1 + 1 * (1 + 1 * 1))))))"
                + "then 1 + 1 * (1 + 1 * (1 + 2 * (1 + 1 * (1 + 1 * (1 + 3 * (1 + 1 * 1)))))) else 1;");
        CHECK.due("the deepest", x.sleeper(0, 5), 1 + (1 + (1 + 2 * (1 + (1 + (1 + 3 * 2))))));
    }
}
