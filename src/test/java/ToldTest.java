/** Promises 26 to 29: what is told, and who may be awake by it. */
public final class ToldTest {
    private static final Check CHECK = new Check();
    private static final int MOST = Integer.MAX_VALUE;
    private static final int LEAST = Integer.MIN_VALUE;
    private static final String TEXT = "spans 3; sleeper a 5 1 0 0; sleeper b 3 0 0 0; sleeper c 8 0 0 0; sleeper d 4 0 0 1; sleeper e 4 0 0 1;"
            + "pair a b; bonus 2; wakes = 100 * weight; deepens = 1; dawn 6;";

    public static void main(String[] args) {
        telling();
        awake();
        awakeAsItIs();
        asking();
        atDawn();
        fromDawnOn();
        CHECK.end();
    }

    private static void telling() {
        SleepBridge x = Check.of(TEXT);
        CHECK.dueRow("no such", new int[] {x.tell(3, 0), x.tell(-1, 0), x.tell(0, -1), x.tell(0, 1000), x.tell(MOST, 0), x.tell(0, LEAST), x.count(10)},
                -1, -1, -1, -1, -1, -1, 0);
        CHECK.dueRow("forget nothing", new int[] {x.forget(), x.count(9)}, 0, 0);
        for (int i = 0; i < 20; i++) {
            CHECK.due("tell", x.tell(i % 3, i == 0 ? 999 : i), i);
        }
        CHECK.dueRow("20 are there", new int[] {x.tell(0, 0), x.count(10), x.count(9)}, -1, 20, 0);
        CHECK.dueRow("forget", new int[] {x.forget(), x.count(10), x.forget(), x.tell(2, 0), x.count(10)}, 20, 0, 0, 0, 1);
        CHECK.due("nothing to undo", x.undo(), false);
    }

    private static int[] sets(SleepBridge x, int k) {
        int n = x.awake(k, -1);
        int[] row = new int[Math.max(0, n) + 2];
        for (int i = -1; i <= Math.max(0, n); i++) {
            row[i + 1] = x.awake(k, i);
        }
        return row;
    }

    private static void awake() {
        SleepBridge x = Check.of(TEXT);
        CHECK.dueRow("nothing known", new int[] {x.awake(0, -1), x.awake(0, 0), x.awake(0, 1), x.awake(0, 31), x.awake(0, 32)}, 32, 0, 1, 31, -1);
        CHECK.dueRow("no such", new int[] {x.awake(1, -1), x.awake(-1, -1), x.awake(0, -2), x.awake(MOST, -1), x.awake(0, MOST), x.awake(0, LEAST)},
                -1, -1, -1, -1, -1, -1);
        // span 1 bears 4: just one of d and e is awake; span 0 bears 8: c alone is asleep
        x.tell(1, 4);
        CHECK.dueRow("sixteen", new int[] {x.awake(1, -1), x.awake(1, 0), x.awake(1, 7), x.awake(1, 8), x.awake(1, 15), x.awake(1, 16)}, 16, 8, 15, 16, 23, -1);
        x.tell(0, 8);
        CHECK.dueRow("two", sets(x, 2), 2, 3 + 8, 3 + 16, -1);
        CHECK.due("by the first alone", x.awake(1, -1), 16);
        CHECK.due("by none", x.awake(0, -1), 32);
        CHECK.due("by three", x.awake(3, -1), -1);
        x.tell(2, 0);
        CHECK.due("span 2 bears nothing anyway", x.awake(3, -1), 2);
        x.tell(2, 1);
        CHECK.dueRow("that cannot be", sets(x, 4), 0, -1);
        CHECK.due("by three of four", x.awake(3, 1), 19);
        x.forget();
        // 10: a, b and their bonus
        x.tell(0, 10);
        CHECK.dueRow("c is awake", new int[] {x.awake(1, -1), x.awake(1, 0), x.awake(1, 3)}, 4, 4, 28);
    }

    private static void awakeAsItIs() {
        SleepBridge x = Check.of(TEXT);
        x.tell(0, 18);
        CHECK.dueRow("all on span 0 sleep", new int[] {x.awake(1, -1), x.awake(1, 0), x.awake(1, 3)}, 4, 0, 24);
        x.hours(1);
        // a woke; depths are 5 4 9 5 5: whoever is asleep, 18 cannot be (20, 13, 14, 11 ..)
        CHECK.dueRow("a woke", new int[] {x.count(12), x.sleeper(2, 0), x.awake(1, -1), x.count(10)}, 30, 9, 0, 1);
        x.forget();
        x.tell(0, 20);
        CHECK.dueRow("a may be asleep though it is not", new int[] {x.awake(1, -1), x.awake(1, 0)}, 4, 0);
        x.undo();
        CHECK.dueRow("told stays, depths are as they were", new int[] {x.count(10), x.awake(1, -1)}, 1, 0);
        x.lay(3, 0);
        x.forget();
        x.tell(0, 22);
        CHECK.dueRow("d lies on span 0 too", new int[] {x.awake(1, -1), x.awake(1, 0), x.awake(1, 1)}, 2, 0, 16);
        x = Check.of("sleeper a 5 0 0 0; sleeper b 5 0 0 0; holds = 3 + beside;");
        x.tell(0, 3);
        CHECK.dueRow("one alone holds 3, two 4 each", sets(x, 1), 2, 1, 2, -1);
        x.tell(0, 3);
        CHECK.due("known twice", x.awake(2, -1), 2);
    }

    private static void asking() {
        SleepBridge x = Check.of(TEXT);
        // span 0 has the answers 18 10 13 .. each by four sets, span 1 has 8 (8 sets), 4 (16), 0 (8)
        CHECK.dueRow("ask", new int[] {x.ask(0), x.ask(1), x.ask(-1), x.ask(MOST), x.ask(LEAST)}, 0, -1, -1, -1, -1);
        x.tell(0, 18);
        CHECK.dueRow("span 0 is known", new int[] {x.ask(1), x.ask(0)}, 1, 0);
        x.tell(1, 8);
        CHECK.dueRow("one set is left: the first span", new int[] {x.awake(2, -1), x.ask(2)}, 1, 0);
        x.tell(2, 9);
        CHECK.dueRow("no sets", new int[] {x.ask(3), x.ask(2), x.ask(4)}, -2, 0, -1);
        x = Check.of("spans 2; sleeper a 5 0 0 0; sleeper b 5 0 0 0; sleeper c 5 0 0 1; sleeper d 6 0 0 1;");
        // span 0: 10 (4 sets), 5 (8), 0 (4); span 1: 11, 6, 5, 0 (4 each)
        CHECK.due("at worst 4, not 8", x.ask(0), 1);
        x = Check.of("spans 2; sleeper a 5 0 0 0; sleeper c 6 0 0 1;");
        CHECK.due("of alike ones the first", x.ask(0), 0);
        x = Check.of("spans 4; sleeper a 5 0 0 3;");
        CHECK.due("the last span", x.ask(0), 3);
    }

    /** Nobody can be asleep at dawn, whoever is thought awake: each set makes every span bear 0. */
    private static void atDawn() {
        SleepBridge x = Check.of("spans 2; sleeper ann 10 3 2 0; sleeper bob 6 5 1 1; sleeper cid 4 1 4 1; pair bob cid; crosser max 1 9 50;"
                + "holds = depth; deepens = 1 - noise; dawn 6; bonus 3;");
        x.hours(5);
        // an hour ahead: span 0 parts 4 and 4, span 1 2, 2, 2, 2
        CHECK.dueRow("ahead of dawn", new int[] {x.count(12), x.ask(0), x.tell(0, 0), x.awake(1, -1), x.awake(1, 0), x.ask(1)}, 7, 1, 0, 4, 1, 1);
        x.forget();
        x.hours(1);
        CHECK.dueRow("at dawn no span parts sets", new int[] {x.count(4), x.count(12), x.ask(0), x.awake(0, -1)}, 6, 0, 0, 8);
        x.tell(0, 0);
        CHECK.dueRow("0 is so for each set", new int[] {x.awake(1, -1), x.awake(1, 0), x.awake(1, 7), x.awake(1, 8), x.ask(1)}, 8, 0, 7, -1, 0);
        x.tell(1, 1);
        CHECK.dueRow("1 is so for none", new int[] {x.awake(2, -1), x.awake(2, 0), x.ask(2), x.ask(1)}, 0, -1, -2, 0);
        x.undo();
        CHECK.dueRow("ahead of dawn again", new int[] {x.count(4), x.ask(0), x.awake(1, -1)}, 5, 1, 4);
    }

    private static void fromDawnOn() {
        SleepBridge x = Check.of("spans 2; sleeper a 5 0 0 1; sleeper b 5 0 0 1; pair a b; dawn 3;");
        CHECK.due("hour 0", x.ask(0), 1);
        x.hours(24);
        CHECK.dueRow("long behind dawn", new int[] {x.ask(0), x.tell(1, 15), x.awake(1, -1), x.tell(1, 0), x.awake(2, -1)}, 0, 0, 0, 1, 0);
        x.night();
        CHECK.dueRow("a new night", new int[] {x.ask(0), x.awake(1, -1), x.awake(1, 0), x.awake(2, -1)}, 1, 1, 0, 0);
        x = Check.of("spans 2; sleeper a 5 0 0 1; dawn 0;");
        CHECK.dueRow("dawn 0", new int[] {x.ask(0), x.tell(1, 0), x.awake(1, -1)}, 0, 0, 2);
        x.night();
        CHECK.dueRow("dawn 0, night 2", new int[] {x.count(12), x.ask(0), x.awake(1, -1)}, 0, 0, 2);
    }
}
