/** Terms III and promises 18 to 20 and 24 at their edges: the best rows, moves and sets, and who is missed. */
public final class EdgePlanTest {
    private static final Check CHECK = new Check();
    private static final int MOST = Integer.MAX_VALUE;
    private static final int LEAST = Integer.MIN_VALUE;
    private static final int[] FAR = {-2, -3, -100, 7, 31, 32, 64, 65536, LEAST, LEAST + 1, MOST - 1, MOST};

    public static void main(String[] args) {
        weakestAsked();
        weakestOfNobody();
        weakestAlike();
        weakestOfAll();
        weakestAsAsleep();
        betterAsked();
        betterAlike();
        betterMustBeMore();
        cheapAsked();
        cheapNone();
        cheapAlone();
        cheapAlike();
        cheapOfThoseAsleep();
        missedAsked();
        missedAlike();
        missedOfThoseAsleep();
        CHECK.end();
    }

    private static int[] row(SleepBridge x) {
        int n = x.count(1);
        int[] row = new int[n + 3];
        for (int s = -2; s <= n; s++) {
            row[s + 2] = x.weakest(s);
        }
        return row;
    }

    private static void weakestAsked() {
        CHECK.says("WEAKEST: how much (sleeper NONE), else the SPAN for a SLEEPER; NONE: no such one.");
        SleepBridge x = Check.of("spans 2; sleeper a 9 0 0 1; sleeper b 5 0 0 1;");
        CHECK.dueRow("-2 .. 2", row(x), -1, 5, 0, 1, -1);
        for (int far : FAR) {
            CHECK.due("no such sleeper " + far, x.weakest(far), -1);
        }
        x = Check.of("spans 2; sleeper a 9 0 0 0; sleeper b 5 0 0 0; sleeper c 5 0 0 0; sleeper d 5 0 0 0; sleeper e 5 0 0 0; sleeper f 5 0 0 0;");
        CHECK.dueRow("six", new int[] {x.weakest(5), x.weakest(6)}, 1, -1);
    }

    private static void weakestOfNobody() {
        CHECK.says("WEAKEST: how much (sleeper NONE), else the SPAN for a SLEEPER; NONE: no such one.");
        CHECK.dueRow("a new object", row(new SleepBridge()), -1, 0, -1);
        CHECK.dueRow("one span, nobody", row(Check.of("spans 1;")), -1, 0, -1);
        CHECK.dueRow("one span, one sleeper", row(Check.of("spans 1; sleeper a 7 0 0 0;")), -1, 7, 0, -1);
        CHECK.dueRow("fewer sleepers than spans", row(Check.of("spans 2; sleeper a 7 0 0 1;")), -1, 0, 0, -1);
        CHECK.dueRow("dawn 0", row(Check.of("spans 1; sleeper a 7 0 0 0; dawn 0;")), -1, 0, 0, -1);
    }

    private static void weakestAlike() {
        CHECK.says("WEAKEST: the rows of SPANS for all SLEEPERS (each asleep as it is) by which the SPAN that BEARS least now BEARS most: how much;"
                + " the row, of alike ones the first by SLEEPER 0's SPAN, then the next one's.");
        CHECK.dueRow("a and b may change places", row(Check.of("spans 2; sleeper a 7 0 0 1; sleeper b 7 0 0 0;")), -1, 7, 0, 1, -1);
        CHECK.dueRow("all rows are alike", row(Check.of("spans 2; sleeper a 0 0 0 1; sleeper b 0 0 0 1; sleeper c 0 0 0 1;")), -1, 0, 0, 0, 0, -1);
        CHECK.dueRow("3 and 3, 4 or 3 and 4, 3", row(Check.of("spans 2; sleeper a 3 0 0 1; sleeper b 3 0 0 1; sleeper c 1 0 0 1;")), -1, 3, 0, 1, 0, -1);
        // by span: the row that bears most is the last of all
        SleepBridge x = Check.of("spans 3; sleeper a 1 0 0 0; sleeper b 1 0 0 0; sleeper c 1 0 0 0; holds = if span + which < 2 then 3 else if 2 < span + which then 3 else 9;");
        CHECK.dueRow("a on 2, b on 1, c on 0", row(x), -1, 9, 2, 1, 0, -1);
    }

    private static void weakestOfAll() {
        CHECK.says("WEAKEST: the rows of SPANS for all SLEEPERS (each asleep as it is) by which the SPAN that BEARS least now BEARS most: how much;"
                + " the row, of alike ones the first by SLEEPER 0's SPAN, then the next one's.");
        SleepBridge x = Check.of("spans 5; sleeper a 1 0 0 0; sleeper b 9 0 0 0; sleeper c 9 0 0 0; sleeper d 9 0 0 0; sleeper e 9 0 0 0; sleeper f 8 0 0 0;");
        CHECK.dueRow("a and f together on the first", row(x), -1, 9, 0, 1, 2, 3, 4, 0, -1);
        x = Check.of("spans 2; sleeper a 5 0 0 0; sleeper b 5 0 0 0; sleeper c 5 0 0 1; sleeper d 5 0 0 1; pair a c; pair b d; bonus 50;");
        CHECK.dueRow("pairs lie together", row(x), -1, 60, 0, 1, 0, 1, -1);
        x = Check.of("spans 2; sleeper a 5 0 0 0; sleeper b 5 0 0 0; sleeper c 5 0 0 1; sleeper d 5 0 0 1; holds = 20 - beside * 15;");
        CHECK.dueRow("two and two bear 10, one and three 0", row(x), -1, 10, 0, 0, 1, 1, -1);
    }

    private static void weakestAsAsleep() {
        CHECK.says("WEAKEST: the rows of SPANS for all SLEEPERS (each asleep as it is) by which the SPAN that BEARS least now BEARS most: how much;"
                + " the row, of alike ones the first by SLEEPER 0's SPAN, then the next one's.");
        SleepBridge x = Check.of("spans 2; sleeper a 9 1 0 1; sleeper b 8 0 0 1; sleeper c 7 0 0 1; wakes = weight * 100; deepens = 2; dawn 5;");
        CHECK.dueRow("all asleep: a alone on the first", row(x), -1, 9, 0, 1, 1, -1);
        x.hours(1);
        CHECK.dueRow("a is awake: anywhere, so on 0; depth as it is", row(x), -1, 9, 0, 0, 1, -1);
        x.hours(4);
        CHECK.dueRow("dawn", row(x), -1, 0, 0, 0, 0, -1);
    }

    private static int[] better(SleepBridge x) {
        return new int[] {x.better(-1), x.better(0), x.better(1), x.better(2), x.better(3)};
    }

    private static void betterAsked() {
        CHECK.says("BETTER: what 0 the SLEEPER, 1 to which SPAN, 2 how much the least then BEARS; -2: none; NONE for others.");
        SleepBridge x = Check.of("spans 2; sleeper a 9 0 0 0; sleeper b 5 0 0 0;");
        CHECK.dueRow("-1 .. 3", better(x), -1, 0, 1, 5, -1);
        for (int far : FAR) {
            CHECK.due("no such what " + far, x.better(far), -1);
        }
        x.lay(0, 1);
        CHECK.dueRow("none", better(x), -1, -2, -2, -2, -1);
        CHECK.dueRow("a new object", better(new SleepBridge()), -1, -2, -2, -2, -1);
        CHECK.dueRow("one span", better(Check.of("spans 1; sleeper a 9 0 0 0;")), -1, -2, -2, -2, -1);
        x = Check.of("spans 2; sleeper a 1 0 0 0; sleeper b 2 0 0 0; sleeper c 3 0 0 0; sleeper d 4 0 0 0; sleeper e 5 0 0 0; sleeper f 9 0 0 0;");
        CHECK.dueRow("six", better(x), -1, 5, 1, 9, -1);
    }

    private static void betterAlike() {
        CHECK.says("BETTER: the one SLEEPER to be LAID to another SPAN by which the SPAN that BEARS least now BEARS most, and more than it does;"
                + " of alike ones the first SLEEPER, then the first SPAN.");
        CHECK.dueRow("a or b", better(Check.of("spans 2; sleeper a 5 0 0 1; sleeper b 5 0 0 1;")), -1, 0, 0, 5, -1);
        CHECK.dueRow("the last sleeper brings most", better(Check.of("spans 2; sleeper a 1 0 0 0; sleeper b 2 0 0 0; sleeper c 3 0 0 0;")), -1, 2, 1, 3, -1);
        // d spoils a's sleep on span 2 and may go to 0 or 1
        SleepBridge x = Check.of("spans 3; sleeper a 9 0 0 2; sleeper b 5 0 0 0; sleeper c 5 0 0 1; sleeper d 3 0 0 2; holds = if span < 2 then depth else depth - beside * 9;");
        CHECK.dueRow("the first span", better(x), -1, 3, 0, 5, -1);
        // to the last span of five
        x = Check.of("spans 5; sleeper a 5 0 0 0; sleeper b 5 0 0 0; sleeper c 5 0 0 1; sleeper d 5 0 0 2; sleeper e 5 0 0 3;");
        CHECK.dueRow("the last span", better(x), -1, 0, 4, 5, -1);
        // from the last span to the first
        x = Check.of("spans 2; sleeper a 5 0 0 1; sleeper b 6 0 0 1; sleeper c 7 0 0 1;");
        CHECK.dueRow("c to 0", better(x), -1, 2, 0, 7, -1);
    }

    private static void betterMustBeMore() {
        CHECK.says("BETTER: the one SLEEPER to be LAID to another SPAN by which the SPAN that BEARS least now BEARS most, and more than it does;"
                + " of alike ones the first SLEEPER, then the first SPAN.");
        CHECK.dueRow("as much is not more", better(Check.of("spans 2; sleeper a 5 0 0 0; sleeper b 5 0 0 1;")), -1, -2, -2, -2, -1);
        CHECK.dueRow("as much is not more", better(Check.of("spans 2; sleeper a 5 0 0 0; sleeper b 5 0 0 1; sleeper c 5 0 0 0;")), -1, -2, -2, -2, -1);
        CHECK.dueRow("one more is", better(Check.of("spans 2; sleeper a 6 0 0 0; sleeper b 5 0 0 1; sleeper c 1 0 0 0;")), -1, 2, 1, 6, -1);
        CHECK.dueRow("two spans are empty", better(Check.of("spans 3; sleeper a 6 0 0 0; sleeper b 5 0 0 0;")), -1, -2, -2, -2, -1);
        SleepBridge x = Check.of("spans 2; sleeper a 5 0 0 0; sleeper b 5 0 0 0; wakes = 100;");
        CHECK.dueRow("asleep", better(x), -1, 0, 1, 5, -1);
        x.hours(1);
        CHECK.dueRow("awake", better(x), -1, -2, -2, -2, -1);
        CHECK.dueRow("alone each would bear more, but there is no other span", better(Check.of("spans 1; sleeper a 5 0 0 0; sleeper b 5 0 0 0; holds = 5 - beside * 3;")),
                -1, -2, -2, -2, -1);
        CHECK.dueRow("dawn 0", better(Check.of("spans 2; sleeper a 5 0 0 0; sleeper b 5 0 0 0; dawn 0;")), -1, -2, -2, -2, -1);
    }

    private static int[] cheap(SleepBridge x, int load) {
        return new int[] {x.cheap(load, -1), x.cheap(load, 0), x.cheap(load, 1), x.cheap(load, 2)};
    }

    private static void cheapAsked() {
        CHECK.says("CHEAP (a LOAD 0 .. 999): what 0 WAGES, 1 which (bits); -2: by none; NONE: no such ones.");
        SleepBridge x = Check.of("spans 1; sleeper a 99 0 1 0; sleeper b 99 0 2 0; sleeper c 99 0 3 0; sleeper d 99 0 4 0; sleeper e 99 0 5 0; sleeper f 99 0 9 0;"
                + "pair a b; pair b c; pair c d; pair d e; pair e f; pair f a; bonus 99;");
        CHECK.dueRow("-1", cheap(x, -1), -1, -1, -1, -1);
        CHECK.dueRow("0", cheap(x, 0), -1, 0, 0, -1);
        CHECK.dueRow("1", cheap(x, 1), -1, 1, 1, -1);
        CHECK.dueRow("99", cheap(x, 99), -1, 1, 1, -1);
        CHECK.dueRow("100: a and b with their bonus", cheap(x, 100), -1, 3, 3, -1);
        CHECK.dueRow("297", cheap(x, 297), -1, 3, 3, -1);
        CHECK.dueRow("298", cheap(x, 298), -1, 6, 7, -1);
        CHECK.dueRow("891: all but f", cheap(x, 891), -1, 15, 31, -1);
        CHECK.dueRow("892: all", cheap(x, 892), -1, 24, 63, -1);
        CHECK.dueRow("999", cheap(x, 999), -1, 24, 63, -1);
        CHECK.dueRow("1000", cheap(x, 1000), -1, -1, -1, -1);
        for (int far : new int[] {-2, -100, 1001, 65536, LEAST, LEAST + 1, MOST - 1, MOST}) {
            CHECK.dueRow("far off " + far, new int[] {x.cheap(far, 0), x.cheap(far, 1), x.cheap(0, far), x.cheap(far, far)}, -1, -1, -1, -1);
        }
    }

    private static void cheapNone() {
        CHECK.says("CHEAP (a LOAD 0 .. 999): what 0 WAGES, 1 which (bits); -2: by none; NONE: no such ones.");
        SleepBridge x = Check.of("spans 2; sleeper a 9 0 1 0; sleeper b 8 0 2 1;");
        CHECK.dueRow("8", cheap(x, 8), -1, 3, 3, -1);
        CHECK.dueRow("9", cheap(x, 9), -1, -2, -2, -1);
        CHECK.dueRow("999", cheap(x, 999), -1, -2, -2, -1);
        x = new SleepBridge();
        CHECK.dueRow("a new object, 0", cheap(x, 0), -1, 0, 0, -1);
        CHECK.dueRow("a new object, 1", cheap(x, 1), -1, -2, -2, -1);
        x = Check.of("spans 2; sleeper a 9 0 1 0;");
        CHECK.dueRow("an empty span, 0", cheap(x, 0), -1, 0, 0, -1);
        CHECK.dueRow("an empty span, 1", cheap(x, 1), -1, -2, -2, -1);
    }

    private static void cheapAlone() {
        CHECK.says("CHEAP for a LOAD: the set of SLEEPERS asleep, each on its SPAN, by whom alone each SPAN BEARS as much: with least WAGES; of alike ones the least bits.");
        SleepBridge x = Check.of("spans 1; sleeper a 1 0 1 0; sleeper b 1 0 1 0; sleeper c 1 0 1 0; holds = 30 - beside * 12;");
        CHECK.dueRow("30 by one alone, whom others would disturb", cheap(x, 30), -1, 1, 1, -1);
        CHECK.dueRow("31: two bear 36", cheap(x, 31), -1, 2, 3, -1);
        CHECK.dueRow("36", cheap(x, 36), -1, 2, 3, -1);
        CHECK.dueRow("37: three bear 18", cheap(x, 37), -1, -2, -2, -1);
        CHECK.due("though all together bear but 18", x.span(0, 0), 18);
        x = Check.of("spans 2; sleeper a 9 0 1 0; sleeper b 9 0 9 1; sleeper c 7 0 1 1;");
        CHECK.dueRow("each on its span", cheap(x, 7), -1, 2, 5, -1);
        CHECK.dueRow("each on its span", cheap(x, 8), -1, 10, 3, -1);
    }

    private static void cheapAlike() {
        CHECK.says("CHEAP for a LOAD: the set of SLEEPERS asleep, each on its SPAN, by whom alone each SPAN BEARS as much: with least WAGES; of alike ones the least bits.");
        SleepBridge x = Check.of("spans 1; sleeper a 5 0 2 0; sleeper b 5 0 2 0; sleeper c 5 0 1 0; sleeper d 5 0 1 0;");
        CHECK.dueRow("5: c or d", cheap(x, 5), -1, 1, 4, -1);
        CHECK.dueRow("10: c and d", cheap(x, 10), -1, 2, 12, -1);
        CHECK.dueRow("15: a or b with them", cheap(x, 15), -1, 4, 13, -1);
        x = Check.of("spans 1; sleeper a 5 0 0 0; sleeper b 9 0 0 0; sleeper c 9 0 0 0;");
        CHECK.dueRow("for nothing: the least bits that will do", cheap(x, 6), -1, 0, 2, -1);
        CHECK.dueRow("0 by nobody", cheap(x, 0), -1, 0, 0, -1);
        x = Check.of("spans 1; sleeper a 6 0 9 0; sleeper b 6 0 9 0; sleeper c 9 0 9 0; sleeper d 9 0 9 0;");
        CHECK.dueRow("9 by c, not by a and b", cheap(x, 9), -1, 9, 4, -1);
        x = Check.of("spans 1; sleeper a 5 0 1 0; sleeper b 5 0 1 0; sleeper c 9 0 3 0; sleeper d 10 0 2 0;");
        CHECK.dueRow("a and b, not d, though two", cheap(x, 10), -1, 2, 3, -1);
    }

    private static void cheapOfThoseAsleep() {
        CHECK.says("CHEAP for a LOAD: the set of SLEEPERS asleep, each on its SPAN, by whom alone each SPAN BEARS as much: with least WAGES; of alike ones the least bits.");
        SleepBridge x = Check.of("spans 1; sleeper a 9 1 1 0; sleeper b 9 0 2 0; wakes = weight * 100; deepens = 1; dawn 3;");
        CHECK.dueRow("a", cheap(x, 9), -1, 1, 1, -1);
        x.hours(1);
        CHECK.dueRow("a is awake: b, deeper by 1", cheap(x, 10), -1, 2, 2, -1);
        CHECK.dueRow("11", cheap(x, 11), -1, -2, -2, -1);
        x.hours(2);
        CHECK.dueRow("dawn", cheap(x, 1), -1, -2, -2, -1);
        CHECK.dueRow("dawn, 0", cheap(x, 0), -1, 0, 0, -1);
    }

    private static int[] missed(SleepBridge x) {
        return new int[] {x.missed(-1), x.missed(0), x.missed(1), x.missed(2)};
    }

    private static void missedAsked() {
        CHECK.says("MISSED: what 0 which, 1 how much the SPAN that BEARS least then BEARS; -2: nobody is asleep; NONE for others.");
        SleepBridge x = Check.of("spans 1; sleeper a 5 0 0 0; sleeper b 7 0 0 0; dawn 2;");
        CHECK.dueRow("b", missed(x), -1, 1, 5, -1);
        for (int far : FAR) {
            CHECK.due("no such what " + far, x.missed(far), -1);
        }
        x.hours(2);
        CHECK.dueRow("dawn: nobody is asleep", missed(x), -1, -2, -2, -1);
        CHECK.dueRow("a new object", missed(new SleepBridge()), -1, -2, -2, -1);
        CHECK.dueRow("one alone", missed(Check.of("spans 1; sleeper a 5 0 0 0;")), -1, 0, 0, -1);
    }

    private static void missedAlike() {
        CHECK.says("MISSED: the SLEEPER who, being awake, makes the SPAN that BEARS least BEAR least (all else as it is); of alike ones the first.");
        CHECK.dueRow("a or b", missed(Check.of("spans 1; sleeper a 5 0 0 0; sleeper b 5 0 0 0;")), -1, 0, 5, -1);
        CHECK.dueRow("an empty span: all are alike", missed(Check.of("spans 2; sleeper a 5 0 0 0; sleeper b 9 0 0 0;")), -1, 0, 0, -1);
        CHECK.dueRow("the last", missed(Check.of("spans 2; sleeper a 5 0 0 0; sleeper b 5 0 0 0; sleeper c 4 0 0 1;")), -1, 2, 0, -1);
        // one of a pair takes the bonus along
        CHECK.dueRow("b is dreamt of twice", missed(Check.of("spans 1; sleeper a 5 0 0 0; sleeper b 4 0 0 0; sleeper c 5 0 0 0; pair a b; pair b c; bonus 3;")), -1, 1, 10, -1);
        // all else as it is: whoever wakes, the others hold more
        CHECK.dueRow("beside", missed(Check.of("spans 1; sleeper a 5 0 0 0; sleeper b 6 0 0 0; holds = 9 - beside * 5;")), -1, 0, 9, -1);
    }

    private static void missedOfThoseAsleep() {
        CHECK.says("MISSED: the SLEEPER who, being awake, makes the SPAN that BEARS least BEAR least (all else as it is); of alike ones the first.");
        SleepBridge x = Check.of("spans 2; sleeper a 5 1 0 0; sleeper b 6 0 0 0; sleeper c 9 0 0 1; wakes = weight * 100;");
        x.hours(1);
        CHECK.dueRow("a is awake: b or c", missed(x), -1, 1, 0, -1);
        x = Check.of("spans 3; sleeper a 5 1 0 0; sleeper b 6 1 0 0; sleeper c 9 0 0 1; wakes = weight * 100;");
        x.hours(1);
        CHECK.dueRow("c alone sleeps", missed(x), -1, 2, 0, -1);
    }
}
