/** Terms IV and promises 26 to 29 at their edges: what is told, who may be awake by it, and what to ask. */
public final class EdgeToldTest {
    private static final Check CHECK = new Check();
    private static final int MOST = Integer.MAX_VALUE;
    private static final int LEAST = Integer.MIN_VALUE;
    private static final int[] FAR = {-2, -3, -100, 21, 31, 32, 64, 1001, 65536, LEAST, LEAST + 1, MOST - 1, MOST};

    public static void main(String[] args) {
        telling();
        tellingOfSpans();
        twenty();
        forgetting();
        known();
        awakeAsked();
        awakeOfNobody();
        awakeOfAll();
        awakeWhoeverIsSo();
        awakeJustSo();
        awakeAtDawn();
        asked();
        askOfNoSets();
        askAtWorst();
        askAtWorstNotOnTheWhole();
        askAlike();
        CHECK.end();
    }

    private static void telling() {
        CHECK.says("TOLD: that a SPAN was found to BEAR just so much (0 .. 999) at the hour that is; 20 at most, numbered from 0 on;");
        SleepBridge x = Check.of("spans 2; sleeper a 5 0 0 0;");
        CHECK.dueRow("-1 and 1000", new int[] {x.tell(0, -1), x.tell(0, 1000), x.count(10)}, -1, -1, 0);
        CHECK.dueRow("0 and 999", new int[] {x.tell(0, 0), x.tell(0, 999), x.count(10)}, 0, 1, 2);
        for (int far : new int[] {-2, -100, 1001, 1024, 65536, LEAST, LEAST + 1, MOST - 1, MOST}) {
            CHECK.due("no such amount " + far, x.tell(0, far), -1);
        }
        CHECK.due("none of them was told", x.count(10), 2);
    }

    private static void tellingOfSpans() {
        CHECK.says("It is TOLD: its number; NONE, and nothing happens: 20 are there, no such ones.");
        for (int spans = 1; spans <= 5; spans++) {
            SleepBridge x = Check.of("spans " + spans + ";");
            CHECK.dueRow("none beside", new int[] {x.tell(-1, 0), x.tell(spans, 0), x.count(10)}, -1, -1, 0);
            for (int far : FAR) {
                CHECK.due("no such span " + far, x.tell(far, 0), -1);
            }
            for (int span = 0; span < spans; span++) {
                CHECK.due("its number", x.tell(span, 0), span);
            }
            CHECK.due("so many", x.count(10), spans);
        }
        CHECK.dueRow("a new object", new int[] {new SleepBridge().tell(2, 0), new SleepBridge().tell(3, 0)}, 0, -1);
    }

    private static void twenty() {
        CHECK.says("It is TOLD: its number; NONE, and nothing happens: 20 are there, no such ones.");
        SleepBridge x = Check.of("spans 2; sleeper a 5 0 0 0;");
        for (int i = 0; i < 20; i++) {
            CHECK.dueRow("its number", new int[] {x.tell(0, 5), x.count(10)}, i, i + 1);
        }
        CHECK.dueRow("20 are there", new int[] {x.tell(0, 6), x.tell(1, 0), x.tell(0, 5), x.count(10)}, -1, -1, -1, 20);
        CHECK.dueRow("the 21st is not known", new int[] {x.awake(20, -1), x.awake(20, 0), x.awake(21, -1), x.ask(20), x.ask(21)}, 1, 0, -1, 0, -1);
        x.forget();
        CHECK.dueRow("from 0 on again", new int[] {x.tell(0, 5), x.tell(0, 5), x.count(10)}, 0, 1, 2);
    }

    private static void forgetting() {
        CHECK.says("All that was TOLD is forgotten: how many there were.");
        SleepBridge x = Check.of("spans 2; sleeper a 5 0 0 0;");
        CHECK.dueRow("nothing", new int[] {x.forget(), x.count(10), new SleepBridge().forget()}, 0, 0, 0);
        for (int n : new int[] {1, 2, 19, 20, 21}) {
            for (int i = 0; i < n; i++) {
                x.tell(0, 0);
            }
            CHECK.dueRow("forget " + n, new int[] {x.forget(), x.count(10), x.forget(), x.awake(1, -1), x.awake(0, -1)}, Math.min(20, n), 0, 0, -1, 2);
        }
        x.tell(0, 0);
        Check.read(x, "spans 2; x");
        CHECK.due("a fault forgets nothing", x.count(10), 1);
        Check.read(x, "spans 2;");
        CHECK.dueRow("a text does", new int[] {x.count(10), x.forget()}, 0, 0);
    }

    private static void known() {
        CHECK.says("KNOWN by k: the first k.");
        SleepBridge x = Check.of("spans 2; sleeper a 5 0 0 0; sleeper b 7 0 0 0; sleeper c 9 0 0 1;");
        x.tell(1, 9);
        x.tell(0, 7);
        x.tell(1, 0);
        CHECK.dueRow("how many sets", new int[] {x.awake(-1, -1), x.awake(0, -1), x.awake(1, -1), x.awake(2, -1), x.awake(3, -1), x.awake(4, -1)}, -1, 8, 4, 1, 0, -1);
        CHECK.dueRow("the first of them", new int[] {x.awake(0, 0), x.awake(1, 0), x.awake(2, 0), x.awake(3, 0), x.awake(4, 0)}, 0, 0, 1, -1, -1);
        CHECK.dueRow("what to ask", new int[] {x.ask(-1), x.ask(0), x.ask(1), x.ask(2), x.ask(3), x.ask(4)}, -1, 0, 0, 0, -2, -1);
    }

    private static void awakeAsked() {
        CHECK.says("AWAKE, as KNOWN by k: how many (i NONE), else the i-th (bits, the least first); NONE: no such ones, not so many.");
        SleepBridge x = Check.of("spans 2; sleeper a 5 0 0 0; sleeper b 5 0 0 0; sleeper c 9 0 0 1;");
        x.tell(0, 5);
        int[] got = new int[7];
        for (int i = -2; i <= 4; i++) {
            got[i + 2] = x.awake(1, i);
        }
        CHECK.dueRow("a or b, and c or not", got, -1, 4, 1, 2, 5, 6, -1);
        for (int far : FAR) {
            CHECK.dueRow("far off " + far, new int[] {x.awake(far, -1), x.awake(far, 0), x.awake(1, far), x.awake(far, far)}, -1, -1, -1, -1);
        }
        CHECK.dueRow("k beside", new int[] {x.awake(-1, -1), x.awake(2, -1), x.awake(-1, 0), x.awake(2, 0)}, -1, -1, -1, -1);
    }

    private static void awakeOfNobody() {
        CHECK.says("AWAKE, as KNOWN by k: how many (i NONE), else the i-th (bits, the least first); NONE: no such ones, not so many.");
        SleepBridge x = new SleepBridge();
        CHECK.dueRow("the empty set alone", new int[] {x.awake(0, -1), x.awake(0, 0), x.awake(0, 1)}, 1, 0, -1);
        x.tell(0, 0);
        x.tell(1, 1);
        CHECK.dueRow("0 is so, 1 is not", new int[] {x.awake(1, -1), x.awake(1, 0), x.awake(2, -1), x.awake(2, 0)}, 1, 0, 0, -1);
    }

    private static void awakeOfAll() {
        CHECK.says("AWAKE, as KNOWN by k: how many (i NONE), else the i-th (bits, the least first); NONE: no such ones, not so many.");
        SleepBridge x = Check.of("spans 1; sleeper a 1 0 0 0; sleeper b 2 0 0 0; sleeper c 4 0 0 0; sleeper d 8 0 0 0; sleeper e 16 0 0 0; sleeper f 32 0 0 0;");
        CHECK.dueRow("all sets of six", new int[] {x.awake(0, -1), x.awake(0, 0), x.awake(0, 1), x.awake(0, 62), x.awake(0, 63), x.awake(0, 64)}, 64, 0, 1, 62, 63, -1);
        int[] amounts = {0, 1, 31, 32, 62, 63};
        for (int amount : amounts) {
            x.forget();
            x.tell(0, amount);
            CHECK.dueRow("just one set bears " + amount, new int[] {x.awake(1, -1), x.awake(1, 0), x.awake(1, 1)}, 1, 63 - amount, -1);
        }
        x.forget();
        x.tell(0, 64);
        CHECK.dueRow("none bears 64", new int[] {x.awake(1, -1), x.awake(1, 0)}, 0, -1);
    }

    private static void awakeWhoeverIsSo() {
        CHECK.says("AWAKE: sets of SLEEPERS that may be awake, all others asleep (whoever is so), DEPTH as it is, so that all that is KNOWN is so: how many; which.");
        SleepBridge x = Check.of("spans 2; sleeper a 20 1 0 0; sleeper b 30 0 0 0; pair a b; bonus 4; wakes = weight * 100; deepens = 1; dawn 9;");
        x.tell(0, 54);
        CHECK.dueRow("all asleep", new int[] {x.awake(1, -1), x.awake(1, 0)}, 1, 0);
        x.hours(1);
        CHECK.dueRow("b is deeper by 1", new int[] {x.count(12), x.awake(1, -1)}, 2, 0);
        x.forget();
        x.tell(0, 55);
        CHECK.dueRow("a is awake, but may be thought asleep", new int[] {x.awake(1, -1), x.awake(1, 0)}, 1, 0);
        x.tell(0, 31);
        CHECK.dueRow("both cannot be", new int[] {x.awake(2, -1), x.awake(2, 0)}, 0, -1);
        x.forget();
        x.tell(0, 20);
        CHECK.dueRow("b may be thought awake", new int[] {x.awake(1, -1), x.awake(1, 0)}, 1, 2);
        x.lay(1, 1);
        CHECK.dueRow("each on its span", new int[] {x.awake(1, -1), x.awake(1, 0), x.awake(1, 1)}, 2, 0, 2);
    }

    private static void awakeJustSo() {
        CHECK.says("AWAKE: sets of SLEEPERS that may be awake, all others asleep (whoever is so), DEPTH as it is, so that all that is KNOWN is so: how many; which.");
        SleepBridge x = Check.of("spans 1; sleeper a 10 0 0 0;");
        for (int amount = 9; amount <= 11; amount++) {
            x.forget();
            x.tell(0, amount);
            CHECK.due("just so much: " + amount, x.awake(1, -1), amount == 10 ? 1 : 0);
        }
        x = Check.of("spans 1; sleeper a 10 0 0 0; sleeper b 10 0 0 0; sleeper c 10 0 0 0; holds = 5 + beside;");
        x.tell(0, 12);
        CHECK.dueRow("two hold 6 each", new int[] {x.awake(1, -1), x.awake(1, 0), x.awake(1, 1), x.awake(1, 2)}, 3, 1, 2, 4);
    }

    private static void awakeAtDawn() {
        CHECK.says("AWAKE: sets of SLEEPERS that may be awake, all others asleep (whoever is so), DEPTH as it is, so that all that is KNOWN is so: how many; which.");
        SleepBridge x = Check.of("spans 2; sleeper a 10 0 0 0; sleeper b 11 0 0 1; dawn 2;");
        x.tell(0, 10);
        x.hours(1);
        CHECK.dueRow("an hour ahead of dawn", new int[] {x.awake(0, -1), x.awake(1, -1), x.awake(1, 1), x.ask(1)}, 4, 2, 2, 1);
        x.hours(1);
        CHECK.dueRow("at dawn nobody is asleep, so no span bears 10", new int[] {x.awake(0, -1), x.awake(1, -1), x.ask(1), x.ask(0)}, 4, 0, -2, 0);
        x.forget();
        x.tell(0, 0);
        CHECK.dueRow("but each bears 0 by each set", new int[] {x.awake(1, -1), x.awake(1, 3), x.awake(1, 4), x.ask(1)}, 4, 3, -1, 0);
        x.hours(9);
        CHECK.dueRow("later, too", new int[] {x.awake(1, -1), x.ask(1)}, 4, 0);
    }

    private static void asked() {
        CHECK.says("ASK, as KNOWN by k; -2: no sets; NONE: no such k.");
        SleepBridge x = Check.of("spans 2; sleeper a 10 0 0 1;");
        CHECK.dueRow("nothing told", new int[] {x.ask(-1), x.ask(0), x.ask(1)}, -1, 1, -1);
        for (int far : FAR) {
            CHECK.due("no such k " + far, x.ask(far), -1);
        }
        x.tell(0, 0);
        CHECK.dueRow("one told", new int[] {x.ask(-1), x.ask(0), x.ask(1), x.ask(2)}, -1, 1, 1, -1);
    }

    private static void askOfNoSets() {
        CHECK.says("ASK, as KNOWN by k; -2: no sets; NONE: no such k.");
        SleepBridge x = Check.of("spans 2; sleeper a 10 0 0 1;");
        x.tell(1, 10);
        x.tell(1, 9);
        CHECK.dueRow("a set, then none", new int[] {x.ask(0), x.ask(1), x.ask(2), x.ask(3)}, 1, 0, -2, -1);
        x = new SleepBridge();
        CHECK.dueRow("a new object: the empty set", new int[] {x.ask(0), x.tell(0, 1), x.ask(1)}, 0, 0, -2);
    }

    private static void askAtWorst() {
        CHECK.says("ASK: the SPAN of which, once it is known what it BEARS, fewest are left, at worst; of alike ones the first.");
        // span 0: 10 (of 4 sets), 5 (of 8), 0 (of 4); span 1: 11, 6, 5, 0, each of 4
        CHECK.due("4 at worst, not 8", Check.of("spans 2; sleeper a 5 0 0 0; sleeper b 5 0 0 0; sleeper c 5 0 0 1; sleeper d 6 0 0 1;").ask(0), 1);
        // span 0 has two answers, each of 4 sets; span 1 has four, each of 2
        CHECK.due("2 at worst", Check.of("spans 2; sleeper a 5 0 0 0; sleeper b 3 0 0 1; sleeper c 4 0 0 1;").ask(0), 1);
        // span 2 has eight answers, each of 8 sets; span 1 has four, two of them of 24 sets
        SleepBridge x = Check.of("spans 3; sleeper a 1 0 0 2; sleeper b 2 0 0 2; sleeper c 4 0 0 2; sleeper d 1 0 0 1; sleeper e 1 0 0 1; sleeper f 1 0 0 1;");
        CHECK.due("the last span tells all of its three apart", x.ask(0), 2);
        x.tell(2, 7);
        CHECK.due("that is known: the middle one", x.ask(1), 1);
        x.tell(1, 2);
        CHECK.dueRow("three sets are left, and no span tells them apart", new int[] {x.awake(2, -1), x.ask(2)}, 3, 0);
    }

    /** Span 0 has six answers, of 4 or 12 sets; span 1 has four, each of 8: fewer are left at worst, though more on the whole. */
    private static void askAtWorstNotOnTheWhole() {
        CHECK.says("ASK: the SPAN of which, once it is known what it BEARS, fewest are left, at worst; of alike ones the first.");
        SleepBridge x = Check.of("spans 2; sleeper a 9 0 0 0; sleeper b 9 0 0 0; sleeper c 9 0 0 0; sleeper d 1 0 0 1; sleeper e 2 0 0 1;"
                + "holds = if 0 < span then depth else if beside < 1 then 5 else 5 + which;");
        CHECK.due("8 at worst, not 12", x.ask(0), 1);
        int[] amounts = {0, 5, 11, 12, 13, 18};
        int[] left = {4, 12, 4, 4, 4, 4};
        for (int i = 0; i < amounts.length; i++) {
            x.forget();
            x.tell(0, amounts[i]);
            CHECK.due("sets by which span 0 bears " + amounts[i], x.awake(1, -1), left[i]);
        }
        for (int amount = 0; amount < 4; amount++) {
            x.forget();
            x.tell(1, amount);
            CHECK.due("sets by which span 1 bears " + amount, x.awake(1, -1), 8);
        }
    }

    private static void askAlike() {
        CHECK.says("ASK: the SPAN of which, once it is known what it BEARS, fewest are left, at worst; of alike ones the first.");
        CHECK.due("0 or 1", Check.of("spans 2; sleeper a 5 0 0 0; sleeper b 6 0 0 1;").ask(0), 0);
        CHECK.due("1 or 2", Check.of("spans 3; sleeper a 5 0 0 1; sleeper b 6 0 0 2;").ask(0), 1);
        CHECK.due("none tells anything", Check.of("spans 5; sleeper a 0 0 0 3;").ask(0), 0);
        CHECK.due("the last of five", Check.of("spans 5; sleeper a 5 0 0 4;").ask(0), 4);
        CHECK.due("dawn 0", Check.of("spans 5; sleeper a 5 0 0 4; dawn 0;").ask(0), 0);
    }
}
