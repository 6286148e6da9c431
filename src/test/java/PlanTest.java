/** Promises 18 to 21 and 24: the best of what would be. */
public final class PlanTest {
    private static final Check CHECK = new Check();
    private static final int MOST = Integer.MAX_VALUE;
    private static final int LEAST = Integer.MIN_VALUE;

    public static void main(String[] args) {
        weakest();
        weakestByLaws();
        better();
        betterNot();
        cheap();
        cheapAlike();
        order();
        orderOfWhoIsThere();
        missed();
        CHECK.end();
    }

    private static int[] row(SleepBridge x) {
        int[] row = new int[x.count(1) + 1];
        for (int s = -1; s < x.count(1); s++) {
            row[s + 1] = x.weakest(s);
        }
        return row;
    }

    private static void weakest() {
        SleepBridge x = Check.of("spans 2; sleeper a 9 0 0 0; sleeper b 5 0 0 0; sleeper c 4 0 0 0; sleeper d 2 0 0 0;");
        // 9 + 2 and 5 + 4 as well as 9 and 5 + 4 + 2 leave 9 and 11: least 9; 9 alone on 0 and all others on 1 is 9 and 11
        CHECK.dueRow("9 at least: a and d on 0 is the first row", row(x), 9, 0, 1, 1, 0);
        CHECK.dueRow("no such", new int[] {x.weakest(4), x.weakest(-2), x.weakest(MOST), x.weakest(LEAST)}, -1, -1, -1, -1);
        x = Check.of("spans 3; sleeper a 9 0 0 2; sleeper b 5 0 0 2;");
        CHECK.dueRow("a span stays empty: the first row of all", row(x), 0, 0, 0);
        x = Check.of("spans 3; sleeper a 9 0 0 2; sleeper b 5 0 0 2; sleeper c 7 0 0 2;");
        CHECK.dueRow("each alone", row(x), 5, 0, 1, 2);
        // pairs are worth their bonus
        x = Check.of("spans 2; sleeper a 3 0 0 0; sleeper b 3 0 0 0; sleeper c 3 0 0 0; sleeper d 3 0 0 0; pair a d; pair c b; bonus 9;");
        CHECK.dueRow("pairs together", row(x), 15, 0, 1, 1, 0);
        // who is awake holds nothing: span 0
        x = Check.of("spans 2; sleeper a 3 0 0 1; sleeper b 3 1 0 1; sleeper c 3 0 0 1; wakes = 100 * weight;");
        x.hours(1);
        CHECK.dueRow("b is awake", row(x), 3, 0, 0, 1);
        CHECK.due("nothing is laid", x.span(1, 2), 7);
        x = Check.of("spans 5; sleeper a 11 0 0 0; sleeper b 12 0 0 0; sleeper c 13 0 0 0; sleeper d 14 0 0 0; sleeper e 5 0 0 0; sleeper f 7 0 0 0;");
        CHECK.dueRow("five spans", row(x), 11, 0, 1, 2, 3, 4, 4);
        x = Check.of("spans 1; sleeper a 11 0 0 0; sleeper b 12 0 0 0;");
        CHECK.dueRow("one span", row(x), 23, 0, 0);
        x = Check.of("dawn 0; sleeper a 11 0 0 2;");
        CHECK.dueRow("dawn", row(x), 0, 0);
    }

    private static void weakestByLaws() {
        // by span: who lies where matters
        SleepBridge x = Check.of("spans 2; sleeper a 1 0 0 0; sleeper b 2 0 0 0; holds = if which < 1 then 5 + span * 10 else 10 - span * 5;");
        CHECK.dueRow("a to span 1, b to span 0", row(x), 10, 1, 0);
        // by beside: nobody wants to be alone
        x = Check.of("spans 2; sleeper a 1 0 0 0; sleeper b 1 0 0 0; sleeper c 1 0 0 0; sleeper d 1 0 0 1; holds = beside * 4;");
        CHECK.dueRow("two and two", row(x), 8, 0, 0, 1, 1);
        // by load: p stands on span 1
        x = Check.of("spans 2; sleeper a 9 0 0 0; sleeper b 9 0 0 1; crosser p 6 0 0; holds = if which < 1 then 20 - load else 9;");
        x.send(0);
        x.hours(2);
        CHECK.due("p is on span 1", x.crosser(0, 3), 1);
        CHECK.dueRow("both rows leave 9", row(x), 9, 0, 1);
    }

    private static void better() {
        SleepBridge x = Check.of("spans 2; sleeper a 9 0 0 0; sleeper b 5 0 0 0; sleeper c 4 0 0 0;");
        // a to 1: 9 and 9; b to 1: 13 and 5; c to 1: 14 and 4
        CHECK.dueRow("better", new int[] {x.better(0), x.better(1), x.better(2)}, 0, 1, 9);
        CHECK.dueRow("no such", new int[] {x.better(-1), x.better(3), x.better(MOST), x.better(LEAST)}, -1, -1, -1, -1);
        x = Check.of("spans 3; sleeper a 3 0 0 0; sleeper b 4 0 0 0; sleeper c 4 0 0 0; sleeper d 8 0 0 2;");
        CHECK.dueRow("b and c are alike: b", new int[] {x.better(0), x.better(1), x.better(2)}, 1, 1, 4);
        x = Check.of("spans 2; sleeper a 1 0 0 1; sleeper b 1 0 0 1; sleeper c 6 0 0 0; sleeper d 6 0 0 0; pair a c; bonus 7;");
        // c to 1: 6 and 1 + 1 + 6 + 7; d to 1: 6 and 8
        CHECK.dueRow("the first of alike ones", new int[] {x.better(0), x.better(1), x.better(2)}, 2, 1, 6);
        // a and d spoil each other's sleep on span 2: d to 0 leaves 8 5 9, d to 1 leaves 5 8 9, a to 0 leaves 14 5 3
        x = Check.of("spans 3; sleeper a 9 0 0 2; sleeper b 5 0 0 0; sleeper c 5 0 0 1; sleeper d 3 0 0 2; holds = if span < 2 then depth else depth - beside * 9;");
        CHECK.dueRow("the first span", new int[] {x.better(0), x.better(1), x.better(2)}, 3, 0, 5);
    }

    private static void betterNot() {
        SleepBridge x = Check.of("spans 3; sleeper a 9 0 0 0; sleeper b 5 0 0 0;");
        CHECK.dueRow("one span stays empty", new int[] {x.better(0), x.better(1), x.better(2), x.better(3)}, -2, -2, -2, -1);
        x = Check.of("spans 2; sleeper a 9 0 0 0; sleeper b 9 0 0 1;");
        CHECK.due("not more", x.better(0), -2);
        x = Check.of("spans 1; sleeper a 9 0 0 0;");
        CHECK.due("no other span", x.better(2), -2);
        x = Check.of("spans 1; sleeper a 9 0 0 0; sleeper b 9 0 0 0; holds = 5 - beside * 3;");
        CHECK.due("one alone would bear more, but there is no other span", x.better(0), -2);
        x = Check.of("spans 2; sleeper a 9 0 0 0; sleeper b 9 0 0 0; wakes = 100;");
        CHECK.due("asleep", x.better(0), 0);
        x.hours(1);
        CHECK.due("awake", x.better(0), -2);
    }

    private static int[] cheap(SleepBridge x, int load) {
        return new int[] {x.cheap(load, 0), x.cheap(load, 1)};
    }

    private static void cheap() {
        SleepBridge x = Check.of("spans 2; sleeper a 9 0 5 0; sleeper b 6 0 2 0; sleeper c 4 0 1 0; sleeper d 12 0 3 1; sleeper e 7 1 1 1;"
                + "pair b c; bonus 2; wakes = 100 * weight;");
        CHECK.dueRow("0", cheap(x, 0), 0, 0);
        CHECK.dueRow("1: c and e", cheap(x, 1), 2, 4 + 16);
        CHECK.dueRow("5: b and e", cheap(x, 5), 3, 2 + 16);
        CHECK.dueRow("7: b, c (12 with their bonus) and e", cheap(x, 7), 4, 6 + 16);
        CHECK.dueRow("8: b, c and d", cheap(x, 8), 6, 6 + 8);
        CHECK.dueRow("12", cheap(x, 12), 6, 6 + 8);
        CHECK.dueRow("13: a, c, d, e (9 + 4 and 19)", cheap(x, 13), 10, 1 + 4 + 8 + 16);
        CHECK.dueRow("19: all", cheap(x, 19), 12, 31);
        CHECK.dueRow("20", cheap(x, 20), -2, -2);
        CHECK.dueRow("999", cheap(x, 999), -2, -2);
        CHECK.dueRow("no such", new int[] {x.cheap(-1, 0), x.cheap(1000, 0), x.cheap(1, 2), x.cheap(1, -1), x.cheap(MOST, 0), x.cheap(LEAST, 1),
            x.cheap(999, MOST)}, -1, -1, -1, -1, -1, -1, -1);
        x.hours(1);
        CHECK.dueRow("e is awake: c and d", cheap(x, 1), 4, 4 + 8);
        CHECK.dueRow("13: a, c and d bear 12 on span 1 only", cheap(x, 13), -2, -2);
        x.hours(11);
        CHECK.dueRow("dawn", cheap(x, 1), -2, -2);
        CHECK.dueRow("dawn", cheap(x, 0), 0, 0);
    }

    private static void cheapAlike() {
        SleepBridge x = Check.of("spans 1; sleeper a 9 0 3 0; sleeper b 9 0 2 0; sleeper c 9 0 1 0; sleeper d 9 0 0 0;");
        CHECK.dueRow("9: d for nothing", cheap(x, 9), 0, 8);
        CHECK.dueRow("18: c and d", cheap(x, 18), 1, 12);
        x = Check.of("spans 1; sleeper a 9 0 3 0; sleeper b 4 0 2 0; sleeper c 5 0 1 0; sleeper d 9 0 3 0; sleeper e 0 0 0 0;");
        CHECK.dueRow("9: a, b and c, d alike; the least bits", cheap(x, 9), 3, 1);
        // by whom alone: nobody else is beside
        x = Check.of("spans 1; sleeper a 9 0 1 0; sleeper b 9 0 1 0; holds = 5 - beside * 3;");
        CHECK.dueRow("5: one alone", cheap(x, 5), 1, 1);
        CHECK.dueRow("6: both bear 4", cheap(x, 6), -2, -2);
        CHECK.dueRow("4", cheap(x, 4), 1, 1);
    }

    private static int[] order(SleepBridge x, int n) {
        int[] row = new int[n + 2];
        for (int i = -1; i <= n; i++) {
            row[i + 1] = x.order(i);
        }
        return row;
    }

    private static void order() {
        SleepBridge x = Check.of("spans 1; sleeper a 9 0 0 0; crosser p 5 0 1; crosser q 9 0 2; crosser r 5 0 4;");
        CHECK.dueRow("all over in any order", order(x, 3), 7, 0, 1, 2, -1);
        CHECK.dueRow("no such", new int[] {x.order(-2), x.order(3), x.order(MOST), x.order(LEAST)}, -1, -1, -1, -1);
        // dawn 4: who goes on at hours 1 and 2 is over by 3; the third falls at dawn
        x = Check.of("spans 1; sleeper a 9 0 0 0; crosser p 5 0 1; crosser q 9 0 2; crosser r 5 0 4; dawn 4;");
        CHECK.dueRow("q and r, q first", order(x, 3), 6, 1, 2, 0, -1);
        x = Check.of("spans 1; sleeper a 9 0 0 0; crosser p 5 0 1; crosser q 5 0 2; crosser r 5 0 4; crosser s 5 0 8; crosser t 5 0 16; dawn 4;");
        CHECK.dueRow("s and t", order(x, 5), 24, 3, 4, 0, 1, 2, -1);
        // quiet: a would wake
        x = Check.of("spans 1; sleeper a 9 0 0 0; crosser p 5 0 1; wakes = 100;");
        CHECK.dueRow("quiet", order(x, 1), 1, 0, -1);
        // behind 20 hours: a deepens by 1 an hour
        x = Check.of("spans 1; sleeper a 0 0 0 0; crosser p 19 0 3; crosser q 20 0 5; deepens = 1; dawn 99;");
        CHECK.dueRow("19 goes on at 19, is over at 20; 20 not", order(x, 2), 3, 0, 1, -1);
        // a heavy noisy one must not be on the bridge with others
        x = Check.of("spans 2; sleeper a 9 0 0 0; sleeper b 9 0 0 1; crosser p 3 9 2; crosser q 9 0 7; holds = 9 - noise;");
        CHECK.dueRow("p falls by its own noise; q waits until then or goes ahead", order(x, 2), 7, 0, 1, -1);
    }

    private static void orderOfWhoIsThere() {
        SleepBridge x = Check.of("spans 1; sleeper a 9 0 0 0; crosser p 5 0 1; crosser q 9 0 2; crosser r 5 0 4; dawn 5;");
        x.send(1);
        CHECK.dueRow("the toll of who is sent counts", order(x, 2), 7, 0, 2, -1);
        x.hours(2);
        CHECK.dueRow("q is over, its toll paid already", order(x, 2), 4, 2, 0, -1);
        x.send(0);
        x.send(2);
        CHECK.dueRow("nobody is at home", order(x, 0), 1, -1);
        x = Check.of("spans 1; sleeper a 9 0 0 0;");
        CHECK.dueRow("no crossers", order(x, 0), 0, -1);
    }

    private static void missed() {
        SleepBridge x = Check.of("spans 2; sleeper a 9 0 0 0; sleeper b 6 0 0 0; sleeper c 8 1 0 1; sleeper d 3 0 0 1; wakes = 100 * weight;");
        // without a 6, b 9, c 3, d 8
        CHECK.dueRow("missed", new int[] {x.missed(0), x.missed(1), x.missed(-1), x.missed(2), x.missed(MOST), x.missed(LEAST)}, 2, 3, -1, -1, -1, -1);
        x.hours(1);
        // c is awake: without a 3, without b 3, without d 0
        CHECK.dueRow("missed", new int[] {x.missed(0), x.missed(1)}, 3, 0);
        x.hours(11);
        CHECK.dueRow("dawn", new int[] {x.missed(0), x.missed(1), x.missed(2)}, -2, -2, -1);
        x = Check.of("spans 2; sleeper a 9 0 0 0; sleeper b 6 0 0 0;");
        CHECK.dueRow("of alike ones the first", new int[] {x.missed(0), x.missed(1)}, 0, 0);
        // only who is asleep: without b there is more, but a is awake
        x = Check.of("spans 1; sleeper a 9 1 0 0; sleeper b 6 0 0 0; sleeper c 6 0 0 0; wakes = 100 * weight; holds = 8 - beside * 5;");
        x.hours(1);
        CHECK.dueRow("b bears 3, and 8 alone", new int[] {x.span(0, 0), x.missed(0), x.missed(1)}, 6, 1, 8);
    }
}
