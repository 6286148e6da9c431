/** Terms II at their edges: what an hour does, and what a new night leaves. */
public final class EdgeHourTest {
    private static final Check CHECK = new Check();

    public static void main(String[] args) {
        wherever();
        wakingHeld();
        lessThanWakes();
        lotsByNumber();
        deepeningHeld();
        depthHeld();
        whoWakesDoesNotDeepen();
        asTheHourBegan();
        nextHour();
        breaking();
        breakingOfAll();
        breakingSpanBySpan();
        overOnlyIfItHolds();
        furthestFirst();
        alikeByNumber();
        over();
        goingOn();
        goingOnWithOthers();
        byHand();
        newNight();
        newNightOfCrossers();
        lotsOfAllNights();
        CHECK.end();
    }

    private static void wherever() {
        CHECK.says("A CROSSER is at home, SENT (it waits ahead of SPAN 0), on a SPAN, OVER, or has FALLEN.");
        SleepBridge x = Check.of("spans 2; sleeper a 9 0 0 0; sleeper b 9 0 0 1; crosser p 5 1 3; crosser q 10 1 3; dawn 20;");
        CHECK.dueRow("at home", new int[] {x.crosser(0, 3), x.hours(2), x.crosser(0, 3)}, -2, 2, -2);
        x.send(1);
        CHECK.dueRow("who is too heavy waits ahead of span 0", new int[] {x.crosser(1, 3), x.hours(5), x.crosser(1, 3), x.span(0, 1), x.count(14)}, -3, 7, -3, 0, 0);
        x.send(0);
        CHECK.dueRow("sent, on 0, on 1, over", new int[] {x.crosser(0, 3), x.hours(1), x.crosser(0, 3), x.hours(1), x.crosser(0, 3), x.hours(1), x.crosser(0, 3)},
                -3, 8, 0, 9, 1, 10, 9);
        CHECK.dueRow("over it stays", new int[] {x.hours(3), x.crosser(0, 3), x.crosser(0, 4), x.count(7)}, 13, 9, 1, 3);
        x.night();
        x.send(0);
        x.hours(1);
        x.night();
        CHECK.dueRow("fallen it stays", new int[] {x.crosser(0, 3), x.hours(9), x.crosser(0, 3), x.night(), x.crosser(0, 3), Check.bit(x.send(0))}, 10, 9, 10, 4, 10, 0);
    }

    private static int asleepBehindAnHour(String wakes) {
        SleepBridge x = Check.of("sleeper a 5 0 0 0; sleeper b 5 0 0 0; sleeper c 5 0 0 0; sleeper d 5 0 0 0; sleeper e 5 0 0 0; sleeper f 5 0 0 0;"
                + "seed 266; wakes = " + wakes + ";");
        x.hours(1);
        return x.count(12);
    }

    /** Seed 266 has the lots 0 44 69 16 29 99 in the first hour. */
    private static void wakingHeld() {
        CHECK.says("AN HOUR: each that is asleep WAKES if LOT 100 of the SEED and 16 * the hour and its number is less than WAKES tells, held to 0 .. 100;");
        String[] laws = {"0 - 9999", "0 - 1", "0", "1", "99", "100", "101", "9999"};
        int[] wakes = {0, 0, 0, 1, 99, 100, 100, 100};
        int[] asleep = {63, 63, 63, 62, 32, 0, 0, 0};
        for (int i = 0; i < laws.length; i++) {
            CHECK.due("asleep by wakes = " + laws[i], asleepBehindAnHour(laws[i]), asleep[i]);
            CHECK.due("tells of wakes = " + laws[i], Check.of("sleeper a 5 0 0 0; wakes = " + laws[i] + ";").tells(0, 0), wakes[i]);
        }
    }

    private static void lessThanWakes() {
        CHECK.says("AN HOUR: each that is asleep WAKES if LOT 100 of the SEED and 16 * the hour and its number is less than WAKES tells, held to 0 .. 100;");
        int[] lots = {0, 16, 29, 44, 69, 99};
        int[] who = {1, 8, 16, 2, 4, 32};
        int asleep = 63;
        for (int i = 0; i < 6; i++) {
            CHECK.due("a lot as large as wakes stays: " + lots[i], asleepBehindAnHour("" + lots[i]), asleep);
            asleep -= who[i];
            CHECK.due("one less wakes: " + lots[i], asleepBehindAnHour("" + (lots[i] + 1)), asleep);
        }
    }

    private static void lotsByNumber() {
        CHECK.says("AN HOUR: each that is asleep WAKES if LOT 100 of the SEED and 16 * the hour and its number is less than WAKES tells, held to 0 .. 100;");
        // the second hour of seed 266 has 35 52 10 7 52 68, the third 10 2 3 98 66 45
        String text = "sleeper a 5 0 0 0; sleeper b 5 0 0 0; sleeper c 5 0 0 0; sleeper d 5 0 0 0; sleeper e 5 0 0 0; sleeper f 5 0 0 0; seed 266;";
        SleepBridge x = Check.of(text + "wakes = if hour < 1 then 0 else if hour < 2 then 36 else 46;");
        x.hours(1);
        CHECK.due("hour 1", x.count(12), 63);
        x.hours(1);
        CHECK.due("hour 2: a, c, d wake", x.count(12), 63 - 1 - 4 - 8);
        x.hours(1);
        CHECK.due("hour 3: b and f of the others", x.count(12), 16);
        x = Check.of(text + "wakes = if hour < 1 then 0 else if hour < 2 then 36 else 46;");
        x.hours(3);
        CHECK.due("at once", x.count(12), 16);
    }

    private static int depthBehindAnHour(int depth, String deepens) {
        SleepBridge x = Check.of("sleeper a " + depth + " 0 0 0; deepens = " + deepens + ";");
        x.hours(1);
        return x.sleeper(0, 0);
    }

    private static void deepeningHeld() {
        CHECK.says("each other one's DEPTH is changed by what DEEPENS tells, held to -9 .. 9 (DEPTH to 0 .. 99): all this by how all was as the hour began.");
        int[] changes = {-9999, -100, -10, -9, -8, -1, 0, 1, 8, 9, 10, 9999};
        int[] held = {-9, -9, -9, -9, -8, -1, 0, 1, 8, 9, 9, 9};
        for (int i = 0; i < changes.length; i++) {
            String law = changes[i] < 0 ? "0 - " + -changes[i] : "" + changes[i];
            CHECK.due("depth by deepens = " + law, depthBehindAnHour(50, law), 50 + held[i]);
            CHECK.due("tells of deepens = " + law, Check.of("sleeper a 5 0 0 0; deepens = " + law + ";").tells(0, 1), held[i]);
        }
    }

    private static void depthHeld() {
        CHECK.says("each other one's DEPTH is changed by what DEEPENS tells, held to -9 .. 9 (DEPTH to 0 .. 99): all this by how all was as the hour began.");
        int[][] rows = {{99, 1, 99}, {99, 9, 99}, {98, 1, 99}, {98, 2, 99}, {90, 9, 99}, {89, 9, 98}, {91, 9, 99}, {0, -1, 0}, {0, -9, 0}, {1, -1, 0}, {1, -2, 0},
            {9, -9, 0}, {8, -9, 0}, {10, -9, 1}, {99, -9, 90}, {0, 9, 9}};
        for (int[] row : rows) {
            String law = row[1] < 0 ? "0 - " + -row[1] : "" + row[1];
            CHECK.due("depth " + row[0] + " by " + law, depthBehindAnHour(row[0], law), row[2]);
        }
    }

    private static void whoWakesDoesNotDeepen() {
        CHECK.says("each other one's DEPTH is changed by what DEEPENS tells, held to -9 .. 9 (DEPTH to 0 .. 99): all this by how all was as the hour began.");
        SleepBridge x = Check.of("sleeper a 20 1 0 0; sleeper b 30 0 0 0; wakes = weight * 100; deepens = 4; dawn 3;");
        x.hours(1);
        CHECK.dueRow("a woke", new int[] {x.count(12), x.sleeper(0, 0), x.sleeper(1, 0)}, 2, 20, 34);
        x.hours(1);
        CHECK.dueRow("a is awake", new int[] {x.count(12), x.sleeper(0, 0), x.sleeper(1, 0)}, 2, 20, 38);
        x.hours(1);
        CHECK.dueRow("in the hour ahead of dawn b still slept", new int[] {x.count(12), x.sleeper(0, 0), x.sleeper(1, 0)}, 0, 20, 42);
        x.hours(1);
        CHECK.dueRow("from dawn on nobody", new int[] {x.count(12), x.sleeper(0, 0), x.sleeper(1, 0)}, 0, 20, 42);
        x = Check.of("sleeper a 20 1 0 0; wakes = 100; deepens = 4;");
        CHECK.dueRow("quiet: who would wake deepens", new int[] {x.then(1, true, 1, 0), x.then(1, false, 1, 0)}, 24, 0);
    }

    private static void asTheHourBegan() {
        CHECK.says("each other one's DEPTH is changed by what DEEPENS tells, held to -9 .. 9 (DEPTH to 0 .. 99): all this by how all was as the hour began.");
        // by beside: the first of them is not gone for the others
        SleepBridge x = Check.of("sleeper a 5 0 0 0; sleeper b 5 0 0 0; sleeper c 5 0 0 1; wakes = beside * 100; deepens = 1;");
        x.hours(1);
        CHECK.due("a and b wake by each other", x.count(12), 4);
        x = Check.of("sleeper a 5 1 0 0; sleeper b 5 0 0 0; sleeper c 5 1 0 0; wakes = weight * 100; deepens = beside * 3;");
        x.hours(1);
        CHECK.dueRow("b had two beside", new int[] {x.count(12), x.sleeper(1, 0)}, 2, 11);
        // by hour: the one that was
        x = Check.of("sleeper a 5 0 0 0; deepens = hour; wakes = if hour < 1 then 0 else 100;");
        x.hours(1);
        CHECK.dueRow("hour 0", new int[] {x.count(12), x.sleeper(0, 0)}, 1, 5);
        x.hours(1);
        CHECK.dueRow("hour 1", new int[] {x.count(12), x.sleeper(0, 0)}, 0, 5);
        // by noise and load: who goes on in the hour is not there yet, who is over then still is
        x = Check.of("spans 1; sleeper a 5 0 0 0; crosser p 2 3 0; holds = 50; deepens = noise + load;");
        x.send(0);
        CHECK.dueRow("depths", new int[] {x.hours(1), x.sleeper(0, 0), x.hours(1), x.sleeper(0, 0), x.hours(1), x.sleeper(0, 0)}, 1, 5, 2, 10, 3, 10);
        // by depth: as it was
        x = Check.of("sleeper a 5 0 0 0; sleeper b 3 0 0 0; deepens = depth; dawn 30;");
        x.hours(1);
        CHECK.dueRow("twice as deep", new int[] {x.sleeper(0, 0), x.sleeper(1, 0)}, 10, 6);
    }

    private static void nextHour() {
        CHECK.says("It is the next hour.");
        SleepBridge x = Check.of("spans 1; sleeper a 50 0 0 0; crosser p 10 0 1; holds = if hour < 1 then 0 else 10; dawn 9;");
        x.send(0);
        CHECK.dueRow("p goes on by what is borne in the next hour", new int[] {x.hours(1), x.count(4), x.count(6), x.crosser(0, 3)}, 1, 1, 1, 0);
        x = Check.of("spans 1; sleeper a 50 0 0 0; crosser p 10 0 1; holds = if hour < 1 then 10 else 0; dawn 9;");
        x.send(0);
        x.hours(1);
        CHECK.due("and not by what was", x.crosser(0, 3), -3);
        x = Check.of("spans 1; sleeper a 50 0 0 0; crosser p 10 0 1; dawn 1;");
        x.send(0);
        x.hours(1);
        CHECK.due("dawn comes ahead of the crossers", x.crosser(0, 3), -3);
    }

    private static void breaking() {
        CHECK.says("Then SPAN by SPAN, from 0 on: if the LOAD on it is more than it BEARS, all that are on it have FALLEN.");
        for (int holds = 9; holds <= 11; holds++) {
            SleepBridge x = Check.of("spans 2; sleeper a 50 0 0 0; crosser p 10 0 1; holds = if hour < 2 then 50 else " + holds + "; dawn 60;");
            x.send(0);
            x.hours(2);
            CHECK.dueRow("10 on a span that bears " + holds, new int[] {x.crosser(0, 3), x.span(0, 1)}, holds < 10 ? 10 : 0, holds < 10 ? 0 : 10);
        }
        SleepBridge x = Check.of("spans 2; sleeper a 50 0 0 0; crosser p 0 0 1; holds = 0;");
        x.send(0);
        CHECK.dueRow("no load is not more than nothing", new int[] {x.hours(1), x.crosser(0, 3), x.hours(1), x.crosser(0, 3), x.hours(1), x.crosser(0, 3)},
                1, 0, 2, 1, 3, 9);
        x = Check.of("spans 2; sleeper a 50 0 0 0; crosser p 1 0 1; holds = if hour < 2 then 1 else 0;");
        x.send(0);
        CHECK.dueRow("1 is", new int[] {x.hours(1), x.crosser(0, 3), x.hours(1), x.crosser(0, 3), x.count(13)}, 1, 0, 2, 10, 1);
    }

    private static void breakingOfAll() {
        CHECK.says("Then SPAN by SPAN, from 0 on: if the LOAD on it is more than it BEARS, all that are on it have FALLEN.");
        for (int holds = 9; holds <= 10; holds++) {
            SleepBridge x = Check.of("spans 2; sleeper a 50 0 0 0; sleeper b 50 0 0 1; crosser p 4 1 1; crosser q 0 1 1; crosser r 6 1 1; crosser s 50 1 1;"
                    + "holds = if span < 1 then 50 - (50 - " + holds + ") * (hour / 2) else 49; dawn 60;");
            x.send(0);
            x.send(1);
            x.send(2);
            x.send(3);
            x.hours(1);
            CHECK.dueRow("three are on it, one waits", new int[] {x.span(0, 3), x.span(0, 1), x.crosser(3, 3)}, 7, 10, -3);
            x.hours(1);
            CHECK.dueRow("all of it or none: " + holds, new int[] {x.count(13), x.span(1, 3), x.crosser(3, 3)}, holds < 10 ? 7 : 0, holds < 10 ? 0 : 7, -3);
        }
    }

    private static void breakingSpanBySpan() {
        CHECK.says("Then SPAN by SPAN, from 0 on: if the LOAD on it is more than it BEARS, all that are on it have FALLEN.");
        // who has fallen from span 0 makes no noise for span 1 any more
        String text = "spans 2; sleeper a 1 0 0 0; sleeper b 1 0 0 1; holds = if hour < 3 then 50 else 20 - noise;";
        SleepBridge x = Check.of(text + "crosser p 15 9 1; crosser q 15 3 7;");
        x.send(1);
        x.hours(1);
        x.send(0);
        x.hours(2);
        CHECK.dueRow("p fell, q is over", new int[] {x.crosser(0, 3), x.crosser(1, 3)}, 10, 9);
        // but who falls from span 1 was still heard on span 0
        x = Check.of(text + "crosser p 15 3 1; crosser q 15 9 7;");
        x.send(1);
        x.hours(1);
        x.send(0);
        x.hours(2);
        CHECK.dueRow("both fell", new int[] {x.crosser(0, 3), x.crosser(1, 3)}, 10, 10);
    }

    private static void overOnlyIfItHolds() {
        CHECK.says("Then SPAN by SPAN, from 0 on: if the LOAD on it is more than it BEARS, all that are on it have FALLEN.");
        SleepBridge x = Check.of("spans 1; sleeper a 9 0 0 0; crosser p 1 0 8; crosser q 0 0 4; dawn 2;");
        x.send(0);
        x.send(1);
        x.hours(2);
        CHECK.dueRow("at dawn the last span breaks with both on it, ahead of who would be over", new int[] {x.crosser(0, 3), x.crosser(1, 3), x.count(7)}, 10, 10, 0);
        x = Check.of("spans 1; sleeper a 9 0 0 0; crosser p 1 0 8; crosser q 0 0 4; dawn 2;");
        x.send(1);
        x.hours(2);
        CHECK.dueRow("alone without a load he is over", new int[] {x.crosser(1, 3), x.count(7)}, 9, 4);
    }

    private static void furthestFirst() {
        CHECK.says("Then CROSSER by CROSSER, those furthest on (as the hour began) first, of alike ones by number:"
                + " who is on the last SPAN is OVER, and his TOLL is paid; who is on another one, or SENT, goes on to the next one"
                + " if that BEARS his LOAD with what is on it then; else he stays (waits).");
        // each span bears one; the higher number is ahead
        SleepBridge x = Check.of("spans 3; sleeper a 5 0 0 0; sleeper b 5 0 0 1; sleeper c 5 0 0 2; crosser p 5 0 1; crosser q 5 0 2; crosser r 5 0 4; dawn 20;");
        x.send(2);
        x.hours(1);
        x.send(1);
        x.hours(1);
        x.send(0);
        x.hours(1);
        CHECK.dueRow("a row of them", new int[] {x.crosser(0, 3), x.crosser(1, 3), x.crosser(2, 3)}, 0, 1, 2);
        x.hours(1);
        CHECK.dueRow("all go on at once", new int[] {x.crosser(0, 3), x.crosser(1, 3), x.crosser(2, 3), x.count(7)}, 1, 2, 9, 4);
        x.hours(2);
        CHECK.dueRow("all over", new int[] {x.crosser(0, 3), x.crosser(1, 3), x.crosser(2, 3), x.count(7)}, 9, 9, 9, 7);
        // the one ahead stays: those behind stay
        x = Check.of("spans 2; sleeper a 5 0 0 0; sleeper b 4 0 0 1; crosser p 5 0 1; crosser q 5 0 2;");
        x.send(1);
        x.hours(1);
        x.send(0);
        x.hours(2);
        CHECK.dueRow("q stays, p waits", new int[] {x.crosser(0, 3), x.crosser(1, 3)}, -3, 0);
    }

    private static void alikeByNumber() {
        CHECK.says("Then CROSSER by CROSSER, those furthest on (as the hour began) first, of alike ones by number:"
                + " who is on the last SPAN is OVER, and his TOLL is paid; who is on another one, or SENT, goes on to the next one"
                + " if that BEARS his LOAD with what is on it then; else he stays (waits).");
        SleepBridge x = Check.of("spans 2; sleeper a 9 0 0 0; sleeper b 5 0 0 1; crosser p 5 0 1; crosser q 4 0 2; crosser r 5 0 4; crosser s 10 0 8; dawn 20;");
        x.send(3);
        x.send(2);
        x.send(1);
        x.send(0);
        x.hours(1);
        CHECK.dueRow("p and q fit", new int[] {x.crosser(0, 3), x.crosser(1, 3), x.crosser(2, 3), x.crosser(3, 3)}, 0, 0, -3, -3);
        x.hours(1);
        CHECK.dueRow("p goes on, q stays, r follows", new int[] {x.crosser(0, 3), x.crosser(1, 3), x.crosser(2, 3), x.crosser(3, 3)}, 1, 0, 0, -3);
        x.hours(1);
        CHECK.dueRow("p is over, q goes on by number", new int[] {x.crosser(0, 3), x.crosser(1, 3), x.crosser(2, 3)}, 9, 1, 0);
    }

    private static void over() {
        CHECK.says("Then CROSSER by CROSSER, those furthest on (as the hour began) first, of alike ones by number:"
                + " who is on the last SPAN is OVER, and his TOLL is paid; who is on another one, or SENT, goes on to the next one"
                + " if that BEARS his LOAD with what is on it then; else he stays (waits).");
        for (int spans = 1; spans <= 5; spans++) {
            StringBuilder text = new StringBuilder("spans " + spans + "; crosser p 3 1 99; crosser q 3 1 0; dawn 20;");
            for (int span = 0; span < spans; span++) {
                text.append("sleeper ").append((char) ('a' + span)).append(" 3 0 0 ").append(span).append(";");
            }
            SleepBridge x = Check.of(text.toString());
            x.send(0);
            x.hours(spans);
            CHECK.dueRow("on the last of " + spans, new int[] {x.crosser(0, 3), x.count(7), x.count(18)}, spans - 1, 0, 0);
            x.hours(1);
            CHECK.dueRow("over", new int[] {x.crosser(0, 3), x.count(7), x.count(18), x.crosser(0, 4)}, 9, 99, 1, 1);
            x.hours(3);
            CHECK.dueRow("paid once", new int[] {x.crosser(0, 3), x.count(7), x.count(18), x.crosser(0, 4)}, 9, 99, 1, 1);
        }
    }

    private static void goingOn() {
        CHECK.says("Then CROSSER by CROSSER, those furthest on (as the hour began) first, of alike ones by number:"
                + " who is on the last SPAN is OVER, and his TOLL is paid; who is on another one, or SENT, goes on to the next one"
                + " if that BEARS his LOAD with what is on it then; else he stays (waits).");
        for (int depth = 6; depth <= 8; depth++) {
            SleepBridge x = Check.of("spans 2; sleeper a " + depth + " 0 0 0; sleeper b 50 0 0 1; crosser p 7 0 1;");
            x.send(0);
            x.hours(1);
            CHECK.due("7 on to a span that bears " + depth, x.crosser(0, 3), depth < 7 ? -3 : 0);
            x = Check.of("spans 2; sleeper a 50 0 0 0; sleeper b " + depth + " 0 0 1; crosser p 7 0 1;");
            x.send(0);
            x.hours(2);
            CHECK.due("7 on to the next one that bears " + depth, x.crosser(0, 3), depth < 7 ? 0 : 1);
        }
        // who waits goes on as soon as it bears him
        SleepBridge x = Check.of("spans 1; sleeper a 4 0 0 0; crosser p 7 0 1; deepens = 1;");
        x.send(0);
        CHECK.dueRow("5, 6, 7", new int[] {x.hours(1), x.crosser(0, 3), x.hours(1), x.crosser(0, 3), x.hours(1), x.crosser(0, 3)}, 1, -3, 2, -3, 3, 0);
    }

    private static void goingOnWithOthers() {
        CHECK.says("Then CROSSER by CROSSER, those furthest on (as the hour began) first, of alike ones by number:"
                + " who is on the last SPAN is OVER, and his TOLL is paid; who is on another one, or SENT, goes on to the next one"
                + " if that BEARS his LOAD with what is on it then; else he stays (waits).");
        for (int depth = 9; depth <= 11; depth++) {
            SleepBridge x = Check.of("spans 2; sleeper a " + depth + " 0 0 0; sleeper b 1 0 0 1; crosser p 3 0 1; crosser q 7 0 1;");
            x.send(0);
            x.hours(1);
            x.send(1);
            x.hours(1);
            CHECK.dueRow("7 to 3 on a span that bears " + depth, new int[] {x.crosser(0, 3), x.crosser(1, 3)}, 0, depth < 10 ? -3 : 0);
            x = Check.of("spans 2; sleeper a " + depth + " 0 0 0; sleeper b 1 0 0 1; crosser p 3 0 1; crosser q 7 0 1;");
            x.send(0);
            x.send(1);
            x.hours(1);
            CHECK.dueRow("both in one hour", new int[] {x.crosser(0, 3), x.crosser(1, 3)}, 0, depth < 10 ? -3 : 0);
        }
        // by noise: who went on ahead of him in this hour is heard
        SleepBridge x = Check.of("spans 1; sleeper a 1 0 0 0; crosser p 5 4 1; crosser q 5 4 1; holds = 13 - noise;");
        x.send(0);
        x.send(1);
        x.hours(1);
        CHECK.dueRow("p by 13, q not by 9 for 10", new int[] {x.crosser(0, 3), x.crosser(1, 3), x.span(0, 0)}, 0, -3, 9);
        // what is on it then is without him: his own noise and load tell only behind his step
        x = Check.of("spans 1; sleeper a 1 0 0 0; crosser p 8 4 1; holds = 10 - noise;");
        x.send(0);
        CHECK.dueRow("8 by 10, then 6: he falls", new int[] {x.hours(1), x.crosser(0, 3), x.span(0, 0), x.hours(1), x.crosser(0, 3)}, 1, 0, 6, 2, 10);
        x = Check.of("spans 1; sleeper a 1 0 0 0; crosser p 8 0 1; holds = 10 - load;");
        x.send(0);
        CHECK.dueRow("8 by 10, then 2: he falls", new int[] {x.hours(1), x.crosser(0, 3), x.span(0, 0), x.hours(1), x.crosser(0, 3)}, 1, 0, 2, 2, 10);
    }

    private static void byHand() {
        CHECK.says("By hand: a CROSSER at home is SENT; a SLEEPER is LAID to another SPAN (awake or not);"
                + " one that is awake is LULLED (ahead of DAWN; its DEPTH is then 9 less, 0 at least); HOURS go by;");
        int[][] rows = {{0, 0}, {8, 0}, {9, 0}, {10, 1}, {99, 90}};
        for (int[] row : rows) {
            SleepBridge x = Check.of("sleeper a " + row[0] + " 0 0 0; wakes = 100; dawn 9; crosser p 1 1 1;");
            x.hours(1);
            CHECK.dueRow("awake, laid, lulled", new int[] {x.sleeper(0, 4), Check.bit(x.lay(0, 2)), x.sleeper(0, 3), x.lull(0), x.sleeper(0, 0), x.sleeper(0, 4)},
                    0, 1, 2, row[1], row[1], 1);
            CHECK.dueRow("asleep, laid, sent", new int[] {Check.bit(x.lay(0, 1)), x.sleeper(0, 3), x.sleeper(0, 0), Check.bit(x.send(0)), x.crosser(0, 3)},
                    1, 1, row[1], 1, -3);
        }
        SleepBridge x = Check.of("sleeper a 50 0 0 0; wakes = 100; dawn 3;");
        x.hours(2);
        CHECK.due("an hour ahead of dawn", x.lull(0), 41);
        x.hours(1);
        CHECK.dueRow("at dawn", new int[] {x.lull(0), x.sleeper(0, 0), x.sleeper(0, 4)}, -2, 41, 0);
        x.hours(1);
        CHECK.due("behind it", x.lull(0), -2);
    }

    private static void newNight() {
        CHECK.says("a new NIGHT begins (hour 0; all asleep, DEPTH as told; CROSSERS that are OVER, or SENT, are at home;"
                + " who is on a SPAN falls; FALLEN ones stay so; TOLLS stay; LOTS go on by hours that are counted on:"
                + " the hour of LOTS is all HOURS so far, of all nights).");
        SleepBridge x = Check.of("sleeper a 20 1 0 0; sleeper b 30 0 0 1; wakes = weight * 100; deepens = 5; dawn 9;");
        x.hours(3);
        x.lay(0, 2);
        CHECK.dueRow("ahead", new int[] {x.count(4), x.count(12), x.sleeper(0, 0), x.sleeper(1, 0)}, 3, 2, 20, 45);
        CHECK.dueRow("behind", new int[] {x.night(), x.count(4), x.count(6), x.count(12), x.sleeper(0, 0), x.sleeper(1, 0), x.sleeper(0, 3)}, 2, 0, 3, 3, 20, 30, 2);
        x.hours(1);
        x.lull(0);
        x.night();
        CHECK.dueRow("lulled: as told", new int[] {x.sleeper(0, 0), x.count(12)}, 20, 3);
        x.hours(12);
        CHECK.dueRow("from behind dawn", new int[] {x.count(12), x.night(), x.count(12), x.count(4), x.count(6)}, 0, 4, 3, 0, 16);
        CHECK.dueRow("from hour 0", new int[] {x.night(), x.count(4), x.count(5), x.count(6)}, 5, 0, 5, 16);
    }

    private static void newNightOfCrossers() {
        CHECK.says("a new NIGHT begins (hour 0; all asleep, DEPTH as told; CROSSERS that are OVER, or SENT, are at home;"
                + " who is on a SPAN falls; FALLEN ones stay so; TOLLS stay; LOTS go on by hours that are counted on:"
                + " the hour of LOTS is all HOURS so far, of all nights).");
        // at home, sent, on the first span, on the last, over
        SleepBridge x = Check.of("spans 5; sleeper a 9 0 0 0; sleeper b 9 0 0 1; sleeper c 9 0 0 2; sleeper d 9 0 0 3; sleeper e 9 0 0 4;"
                + "crosser p 1 1 1; crosser q 1 1 2; crosser r 1 1 4; crosser s 1 1 8; crosser t 1 1 16; dawn 40;");
        x.send(4);
        x.hours(1);
        x.send(3);
        x.hours(4);
        x.send(2);
        x.hours(1);
        x.send(1);
        int[] where = {x.crosser(0, 3), x.crosser(1, 3), x.crosser(2, 3), x.crosser(3, 3), x.crosser(4, 3)};
        CHECK.dueRow("ahead", where, -2, -3, 0, 4, 9);
        x.night();
        CHECK.dueRow("behind", new int[] {x.crosser(0, 3), x.crosser(1, 3), x.crosser(2, 3), x.crosser(3, 3), x.crosser(4, 3)}, -2, -2, 10, 10, -2);
        CHECK.dueRow("tolls, overs, fallen, noise", new int[] {x.count(7), x.count(18), x.crosser(4, 4), x.count(13), x.count(14)}, 16, 1, 1, 12, 0);
        x.night();
        CHECK.dueRow("fallen ones stay so", new int[] {x.crosser(2, 3), x.crosser(3, 3), x.count(13), x.count(7)}, 10, 10, 12, 16);
        x.send(4);
        x.hours(6);
        CHECK.dueRow("over again", new int[] {x.crosser(4, 3), x.crosser(4, 4), x.count(7), x.count(18)}, 9, 2, 32, 2);
    }

    private static void lotsOfAllNights() {
        CHECK.says("a new NIGHT begins (hour 0; all asleep, DEPTH as told; CROSSERS that are OVER, or SENT, are at home;"
                + " who is on a SPAN falls; FALLEN ones stay so; TOLLS stay; LOTS go on by hours that are counted on:"
                + " the hour of LOTS is all HOURS so far, of all nights).");
        // sleeper 0's lots by seed 266 in the hours 0 to 3 of all: 0 35 10 25; in hour 98: 94, in hour 480: 78
        int[][] rows = {{1, 35}, {2, 10}, {3, 25}, {98, 94}, {480, 78}};
        for (int[] row : rows) {
            for (int more = 0; more <= 1; more++) {
                SleepBridge x = Check.of("spans 1; sleeper a 50 0 0 0; dawn 60; seed 266; wakes = if hour < 1 then " + (row[1] + more) + " else 0;");
                int left = row[0];
                while (left > 0) {
                    int n = Math.min(24, left);
                    x.hours(n);
                    x.night();
                    left -= n;
                }
                CHECK.dueRow("all hours", new int[] {x.count(6), x.count(4), x.count(12)}, row[0], 0, 1);
                CHECK.due("what would be", x.then(1, false, 2, 0), 1 - more);
                x.hours(1);
                CHECK.due("the lot of hour " + row[0] + " of all is " + row[1], x.count(12), 1 - more);
            }
        }
    }
}
