/** Terms I at their edges: which numbers a text may tell, how many of a sort, and which of several faults counts. */
public final class EdgeTextTest {
    private static final Check CHECK = new Check();
    private static final String SIX = "sleeper a 1 1 1 1;sleeper b 1 1 1 1;sleeper c 1 1 1 1;sleeper d 1 1 1 1;sleeper e 1 1 1 1;sleeper f 1 1 1 1;";
    private static final String SIX_PAIRS = "pair a b;pair a c;pair a d;pair a e;pair a f;pair b c;";
    private static final String FIVE = "crosser u 1 1 1;crosser v 1 1 1;crosser w 1 1 1;crosser x 1 1 1;crosser y 1 1 1;";
    private static final String FOUR_IFS = "if 1 < 2 then 3 else if 1 < 2 then 3 else if 1 < 2 then 3 else if 1 < 2 then 3 else ";

    public static void main(String[] args) {
        spans();
        sleepers();
        pairs();
        crossers();
        numberedAsTheyStand();
        laws();
        dawnBonusSeed();
        firstByPlace();
        leastOfOnePlace();
        syntax();
        tokens401();
        oneMoreOfASort();
        fifthIf();
        seventhBracket();
        onlyIfThereIsNone();
        nameToldAlready();
        pairTwice();
        noSuchSleeper();
        wrongNumbers();
        spanThatThereIsNot();
        CHECK.end();
    }

    private static void fault(String text, int fault, int place) {
        SleepBridge x = new SleepBridge();
        String call = text.length() > 150 ? text.substring(0, 60) + " .. " + text.substring(text.length() - 60) : text;
        CHECK.dueRow("read and place of " + call, new int[] {Check.read(x, text), x.place()}, fault, place);
    }

    private static void sound(String text) {
        fault(text, 0, -1);
    }

    /** The fault is where the mark stands. */
    private static void marked(String text, int fault) {
        fault(text.replace("@", ""), fault, text.indexOf('@'));
    }

    /** All numbers from least to most are taken, all others that can be written are not. */
    private static void range(String before, int least, int most, String behind) {
        for (int n = 0; n <= 9999; n += n < 120 || n >= 9995 ? 1 : n < 990 ? 87 : n < 1010 ? 1 : 97) {
            fault(before + n + behind, n >= least && n <= most ? 0 : 5, n >= least && n <= most ? -1 : before.length());
        }
        for (int n : new int[] {least, most}) {
            sound(before + n + behind);
        }
        if (most < 9999) {
            fault(before + (most + 1) + behind, 5, before.length());
        }
        if (least > 0) {
            fault(before + (least - 1) + behind, 5, before.length());
        }
    }

    private static void spans() {
        CHECK.says("SPANS 1 .. 5 (3; the last one), numbered from 0 on.");
        range("spans ", 1, 5, ";");
        for (int spans = 1; spans <= 5; spans++) {
            SleepBridge x = Check.of("spans " + spans + ";");
            CHECK.dueRow("so many spans, the last of them, none behind", new int[] {x.count(0), x.span(0, 0), x.span(spans - 1, 0), x.span(spans, 0)},
                    spans, 0, 0, -1);
        }
        CHECK.due("3 if not told", Check.of("dawn 3;").count(0), 3);
        CHECK.due("the last one", Check.of("spans 5; spans 1; dawn 2; spans 4;").count(0), 4);
        CHECK.due("the last one", Check.of("spans 1; spans 5; spans 2;").count(0), 2);
        marked("spans 4; spans @0; spans 4;", 5);
    }

    private static void sleepers() {
        CHECK.says("SLEEPERS, 6 at most (a NAME, DEPTH 0 .. 99, WEIGHT, WAGE 0 .. 9 each, on which SPAN 0 .. 4),");
        range("spans 5; sleeper a ", 0, 99, " 1 1 1;");
        range("spans 5; sleeper a 1 ", 0, 9, " 1 1;");
        range("spans 5; sleeper a 1 1 ", 0, 9, " 1;");
        range("spans 5; sleeper a 1 1 1 ", 0, 4, ";");
        SleepBridge x = Check.of("spans 5; sleeper a 99 9 8 4; sleeper b 0 0 0 0; sleeper c 98 8 9 3;");
        int[][] rows = {{99, 9, 8, 4}, {0, 0, 0, 0}, {98, 8, 9, 3}};
        for (int s = 0; s < 3; s++) {
            CHECK.dueRow("as told", new int[] {x.sleeper(s, 0), x.sleeper(s, 1), x.sleeper(s, 2), x.sleeper(s, 3)}, rows[s]);
        }
        x = Check.of(SIX);
        CHECK.dueRow("six", new int[] {x.count(1), x.sleeper(5, 0), x.sleeper(6, 0), x.count(12)}, 6, 1, -1, 63);
        marked(SIX + "@sleeper g 1 1 1 1;", 2);
        CHECK.due("none", Check.of("spans 3;").count(1), 0);
    }

    private static void pairs() {
        CHECK.says("PAIRS, 6 at most (two SLEEPERS, who dream of each other),");
        SleepBridge x = Check.of(SIX + SIX_PAIRS);
        CHECK.dueRow("six", new int[] {x.count(2), x.dreams(1), x.count(16), x.span(1, 0)}, 6, 6, 6, 6 + 6 * 5);
        marked(SIX + SIX_PAIRS + "@pair d e;", 2);
        x = Check.of(SIX + "pair b a;");
        CHECK.dueRow("each of the other: one pair", new int[] {x.count(2), x.dreams(1), x.span(1, 0)}, 1, 1, 11);
        CHECK.dueRow("none", new int[] {Check.of(SIX).count(2), Check.of(SIX).span(1, 0)}, 0, 6);
    }

    private static void crossers() {
        CHECK.says("CROSSERS, 5 at most (a NAME, LOAD 0 .. 99, NOISE 0 .. 9, TOLL 0 .. 99), numbered each from 0 on as they stand.");
        range("crosser a ", 0, 99, " 1 1;");
        range("crosser a 1 ", 0, 9, " 1;");
        range("crosser a 1 1 ", 0, 99, ";");
        SleepBridge x = Check.of("crosser a 99 9 98; crosser b 0 0 0; crosser c 98 8 99;");
        int[][] rows = {{99, 9, 98}, {0, 0, 0}, {98, 8, 99}};
        for (int c = 0; c < 3; c++) {
            CHECK.dueRow("as told", new int[] {x.crosser(c, 0), x.crosser(c, 1), x.crosser(c, 2)}, rows[c]);
        }
        x = Check.of(FIVE);
        CHECK.dueRow("five", new int[] {x.count(3), x.crosser(4, 0), x.crosser(5, 0)}, 5, 1, -1);
        marked(FIVE + "@crosser z 1 1 1;", 2);
        CHECK.due("none", Check.of("spans 3;").count(3), 0);
    }

    private static void numberedAsTheyStand() {
        CHECK.says("CROSSERS, 5 at most (a NAME, LOAD 0 .. 99, NOISE 0 .. 9, TOLL 0 .. 99), numbered each from 0 on as they stand.");
        SleepBridge x = Check.of("crosser z 7 1 1; sleeper y 70 1 1 0; crosser x 5 1 1; dawn 4; sleeper a 50 1 1 0; sleeper b 60 1 1 0; crosser c 6 1 1;");
        CHECK.dueRow("sleepers", new int[] {x.sleeper(0, 0), x.sleeper(1, 0), x.sleeper(2, 0), x.sleeper(3, 0)}, 70, 50, 60, -1);
        CHECK.dueRow("crossers", new int[] {x.crosser(0, 0), x.crosser(1, 0), x.crosser(2, 0), x.crosser(3, 0)}, 7, 5, 6, -1);
    }

    private static void laws() {
        CHECK.says("LAWS: HOLDS (depth), WAKES (0), DEEPENS (0), if not told; the last one.");
        SleepBridge x = Check.of("sleeper a 37 2 3 1; seed 266;");
        CHECK.dueRow("not told", new int[] {x.sleeper(0, 5), x.tells(0, 0), x.tells(0, 1)}, 37, 0, 0);
        x.hours(1);
        CHECK.dueRow("lot 0 does not wake, nothing deepens", new int[] {x.count(12), x.sleeper(0, 0)}, 1, 37);
        x = Check.of("holds = 1; wakes = 2; deepens = 3; sleeper a 37 2 3 1; deepens = 4; holds = 5; wakes = 6;");
        CHECK.dueRow("the last one", new int[] {x.sleeper(0, 5), x.tells(0, 0), x.tells(0, 1)}, 5, 6, 4);
        String[] told = {"holds = 8;", "wakes = 8;", "deepens = 8;"};
        int[][] rows = {{8, 0, 0}, {37, 8, 0}, {37, 0, 8}};
        for (int i = 0; i < 3; i++) {
            x = Check.of("sleeper a 37 2 3 1; " + told[i]);
            CHECK.dueRow("one of them", new int[] {x.sleeper(0, 5), x.tells(0, 0), x.tells(0, 1)}, rows[i]);
        }
        Check.read(x, "sleeper a 37 2 3 1;");
        CHECK.dueRow("not told by the next text", new int[] {x.sleeper(0, 5), x.tells(0, 0), x.tells(0, 1)}, 37, 0, 0);
    }

    private static void dawnBonusSeed() {
        CHECK.says("DAWN 0 .. 99 (12): the hour at which all are awake, BONUS 0 .. 99 (5), SEED 0 .. 9999 (0): the last one.");
        range("dawn ", 0, 99, ";");
        range("bonus ", 0, 99, ";");
        range("seed ", 0, 9999, ";");
        String two = "sleeper a 1 1 1 0; sleeper b 1 1 1 0; pair a b;";
        String[] dawns = {"", "dawn 0;", "dawn 1;", "dawn 99;", "dawn 3; dawn 98; dawn 7;"};
        int[] hours = {12, 0, 1, 99, 7};
        for (int i = 0; i < dawns.length; i++) {
            SleepBridge x = Check.of(two + dawns[i]);
            CHECK.due("awake at dawn: " + dawns[i], x.then(hours[i], true, 2, 0), 0);
            if (hours[i] > 0) {
                CHECK.due("an hour ahead of it: " + dawns[i], x.then(hours[i] - 1, true, 2, 0), 2);
            }
        }
        CHECK.due("bonus 5", Check.of(two).span(0, 0), 7);
        CHECK.due("bonus 0", Check.of(two + "bonus 0;").span(0, 0), 2);
        CHECK.due("bonus 99", Check.of(two + "bonus 99;").span(0, 0), 101);
        CHECK.due("the last bonus", Check.of(two + "bonus 99; bonus 0; bonus 40;").span(0, 0), 42);
        // the first lots of 100 of a and b: seed 0 86 26, seed 1 53 52, seed 9999 98 91
        String[] seeds = {"", "seed 0;", "seed 1;", "seed 9999;", "seed 9999; seed 0; seed 1;"};
        int[][] asleep = {{3, 1, 1, 1, 1, 0}, {3, 1, 1, 1, 1, 0}, {3, 3, 1, 0, 0, 0}, {3, 3, 3, 3, 3, 1}, {3, 3, 1, 0, 0, 0}};
        int[] wakes = {26, 27, 53, 54, 86, 98};
        for (int i = 0; i < seeds.length; i++) {
            for (int w = 0; w < wakes.length; w++) {
                SleepBridge x = Check.of(two + seeds[i] + "wakes = " + wakes[w] + ";");
                x.hours(1);
                CHECK.due("asleep by " + seeds[i] + " and wakes " + wakes[w], x.count(12), asleep[i][w]);
            }
        }
    }

    private static void firstByPlace() {
        CHECK.says("FAULTS of a text, the first by its place (a byte; the text's end: its length), of one place the least:");
        marked("@x spans 3 4; holds = (((((((1)))))));", 1);
        marked("holds = ((((((@(1))))))) x;", 2);
        marked(SIX + "@sleeper g x;", 2);
        marked(SIX + "spans @x; sleeper g 1 1 1 1;", 1);
        marked("spans @0; pair q q; sleeper a 1 1 1 1; sleeper a 1 1 1 1;", 5);
        marked("pair @q q; spans 0; sleeper a 1 1 1 1; sleeper a 1 1 1 1;", 4);
        marked("sleeper a 1 1 1 1; sleeper @a 1 1 1 1; spans 0; pair q q;", 3);
        marked("sleeper a 1 1 1 4; dawn @100;", 5);
        marked("sleeper a 1 1 1 4; pair a @a;", 3);
        // the text's end
        marked("spans@", 1);
        marked("spans 3@", 1);
        marked("spans 3 \t\r\n@", 1);
        marked("sleeper a 1 1 1 4;@", 5);
        marked("sleeper a 1 1 1 4; \t\r\n@", 5);
    }

    private static void leastOfOnePlace() {
        CHECK.says("FAULTS of a text, the first by its place (a byte; the text's end: its length), of one place the least:");
        String most = "holds=1;".repeat(100);
        // 1 and 2 at the 401st token
        marked(most + "@;", 1);
        marked(most + "@depth", 1);
        marked(most + "@7", 1);
        marked(most + "@zoe", 1);
        marked(most + "@spans", 2);
        // 3 and 4 at a second name: b is no sleeper, so it is no pair of one with itself
        marked("sleeper a 1 1 1 1; pair a @b; pair a b;", 4);
        // 3 is at a name, 5 at the number behind it
        marked("sleeper a 1 1 1 1; sleeper @a 100 10 10 5;", 3);
        marked("sleeper a @100 10 10 5; sleeper a 1 1 1 1;", 5);
    }

    private static void syntax() {
        CHECK.says("1 SYNTAX: a TOKEN, or what is none, with which no text goes on.");
        marked("spans 3;@;", 1);
        marked("spans 3;@!", 1);
        marked("@;", 1);
        marked("@abcdefghi", 1);
        marked("spans 3 @spans 4;", 1);
        marked("spans@", 1);
        marked("sleeper a 1 1 1@", 1);
        marked("pair a@", 1);
        marked("holds = 1@", 1);
        marked("holds = if 1 < 2 then 3 else 4@", 1);
    }

    private static void tokens401() {
        CHECK.says("2 ROOM: a 401st TOKEN;");
        String most = "holds=1;".repeat(100);
        sound(most);
        sound(most + " ".repeat(1200));
        for (String word : new String[] {"spans", "sleeper", "pair", "crosser", "holds", "wakes", "deepens", "dawn", "bonus", "seed"}) {
            marked(most + "@" + word, 2);
            marked(most + " \n@" + word + " 3;", 2);
        }
        marked(most + "@!", 1);
        marked(most + "@abcdefghi", 1);
        marked(most + "@12345", 1);
        // the 401st is each sort of token once
        String few = "holds=1;".repeat(99);
        marked(few + "dawn 3;spans @3;", 2);
        marked(few + "dawn 3;spans@", 1);
        marked(few + "holds=1+@1;", 2);
        marked(few + "holds=1+@depth;", 2);
        marked(few + "holds=1+@(1);", 2);
        marked(few + "holds=(1@);", 2);
        marked(few + "holds=(1@+", 2);
        marked(few + "holds=(1@-", 2);
        marked(few + "holds=(1@*", 2);
        marked(few + "holds=(1@/", 2);
        marked(few + "holds=(1@;", 1);
        marked(few + "holds=if 1@<", 2);
        marked(few + "holds=(1@", 1);
        marked(few + "dawn 3;holds@=", 2);
        marked(few + "dawn 3;sleeper @a", 2);
        marked(few + "dawn 3;sleeper @3", 1);
        String fewer = "holds=1;".repeat(98);
        marked(fewer + "dawn 3;dawn 3;dawn 3@;", 2);
        marked(fewer + "dawn 3;dawn 3;holds=@if 1", 2);
        marked(fewer + "wakes=if 1<2 then 3@", 1);
        marked(fewer + "wakes=if 1<2 then 3 @else", 2);
        marked("holds=1;".repeat(97) + "dawn 3;dawn 3;wakes=if 1<2 @then", 2);
        // more than 401, and so many that the row of tokens is full many times
        marked(most + "@" + "dawn 3;".repeat(170), 2);
        marked("holds=1" + "+1".repeat(198) + "+@1+1+1+1;", 2);
        sound("holds=1" + "+1".repeat(198) + ";");
        marked("@" + "(".repeat(1999), 1);
        marked("@" + ";".repeat(2000), 1);
    }

    private static void oneMoreOfASort() {
        CHECK.says("one more of a sort than told (at its first TOKEN);");
        sound(SIX + SIX_PAIRS + FIVE);
        marked(SIX + "@sleeper g 1 1 1 1;", 2);
        marked(SIX + "\n @sleeper a 100 1 1 1;", 2);
        marked(SIX + "@sleeper !", 2);
        marked(SIX + "@sleeper", 2);
        marked(SIX + SIX_PAIRS + "@pair d e;", 2);
        marked(SIX + SIX_PAIRS + "@pair a a;", 2);
        marked(SIX + SIX_PAIRS + "@pair", 2);
        marked(FIVE + "@crosser z 1 1 1;", 2);
        marked(FIVE + "@crosser u 100 1 1;", 2);
        marked(FIVE + "@crosser", 2);
        marked(FIVE + SIX + "@sleeper g 1 1 1 1; crosser z 1 1 1;", 2);
        marked(SIX + FIVE + "@crosser g 1 1 1; sleeper z 1 1 1 1;", 2);
        sound("spans 4;".repeat(130));
        sound("dawn 4;".repeat(133));
        sound("bonus 4;".repeat(133));
        sound("seed 4;".repeat(133));
        sound("holds=1;wakes=1;deepens=1;".repeat(33));
    }

    private static void fifthIf() {
        CHECK.says("a 5th if of a LAW (at it);");
        for (String law : new String[] {"holds", "wakes", "deepens"}) {
            sound(law + " = " + FOUR_IFS + "4;");
            marked(law + " = " + FOUR_IFS + "@if 1 < 2 then 3 else 4;", 2);
            marked(law + " = " + FOUR_IFS + "@if", 2);
            marked(law + " = " + FOUR_IFS + "@if !", 2);
            marked(law + " = " + FOUR_IFS + "4 @if", 1);
            // each law has its own four
            sound(law + " = " + FOUR_IFS + "4;" + law + " = " + FOUR_IFS + "4; wakes = " + FOUR_IFS + "4;");
        }
        SleepBridge x = Check.of("sleeper a 7 1 1 1; holds = if depth < 1 then 1 else if depth < 2 then 2 else if depth < 3 then 3 else if depth < 8 then 4 else 5;");
        CHECK.due("the fourth counts", x.sleeper(0, 5), 4);
    }

    private static void seventhBracket() {
        CHECK.says("a 7th ( within one another (at it).");
        sound("holds = ((((((1))))));");
        marked("holds = ((((((@(1)))))));", 2);
        marked("holds = ((((((@(", 2);
        marked("holds = ((((((@(!", 2);
        marked("holds = 1 + ((((((1 * @(1)))))));", 2);
        marked("holds = ((((((1) + (1) + @", 1);
        sound("holds = ((((((1)))))) + ((((((1)))))) * ((((((1))))));");
        sound("holds = (((((1) + (1)) * (1)) - (1)) / (1)) + (1) + (1);");
        sound("holds = (1) + (1) + (1) + (1) + (1) + (1) + (1) + (1) + (1);");
        sound("holds = ((((((1)+1)+1)+1)+1)+1);");
        marked("holds = ((((((@(1)+1)+1)+1)+1)+1)+1);", 2);
        sound("holds = if ((((((1)))))) < ((((((2)))))) then ((((((3)))))) else ((((((4))))));");
        marked("holds = if ((((((@(1))))))) < 2 then 3 else 4;", 2);
        marked("holds = if 1 < ((((((@(2))))))) then 3 else 4;", 2);
        marked("holds = if 1 < 2 then ((((((@(3))))))) else 4;", 2);
        marked("holds = if 1 < 2 then 3 else ((((((@(4)))))));", 2);
        sound("holds = ((((((1)))))); wakes = ((((((1)))))); deepens = ((((((1))))));");
    }

    private static void onlyIfThereIsNone() {
        CHECK.says("If there is none, likewise:");
        String[] later = {"sleeper a 1 1 1 1; sleeper a 1 1 1 1; ", "pair p q; ", "spans 0; ", "sleeper a 1 1 1 4; "};
        for (String text : later) {
            marked(text + "@x", 1);
            marked(text + "dawn@", 1);
            marked(text + "holds = ((((((@(1)))))));", 2);
            marked(text + "holds = " + FOUR_IFS + "@if", 2);
        }
    }

    private static void nameToldAlready() {
        CHECK.says("3 TWICE: a NAME told already (all together);");
        String[] sorts = {"sleeper NAME 1 1 1 1;", "crosser NAME 1 1 1;"};
        for (String first : sorts) {
            for (String second : sorts) {
                for (String name : new String[] {"a", "zz", "abcdefgh"}) {
                    String before = first.replace("NAME", name) + "spans 3;";
                    marked(before + second.replace("NAME", "@" + name), 3);
                    sound(before + second.replace("NAME", name.substring(1) + "q"));
                }
            }
        }
        // the last of all names by the first
        marked(SIX + FIVE.replace("crosser y", "crosser @a"), 3);
        marked(FIVE + SIX.replace("sleeper f", "sleeper @u"), 3);
        marked(FIVE + SIX.replace("sleeper f", "sleeper @e"), 3);
        sound("sleeper abcdefgh 1 1 1 1; sleeper abcdefg 1 1 1 1; crosser abcdefgi 1 1 1; crosser bbcdefgh 1 1 1;");
        sound("sleeper a 1 1 1 1; sleeper aa 1 1 1 1; sleeper aaa 1 1 1 1; crosser aaaa 1 1 1;");
        sound("sleeper ab 1 1 1 1; sleeper r 1 1 1 1; sleeper ba 1 1 1 1; sleeper q 1 1 1 1; crosser ac 1 1 1; crosser ca 1 1 1; crosser z 1 1 1;");
    }

    private static void pairTwice() {
        CHECK.says("(at the second NAME) a PAIR of one with itself, or that there is already.");
        marked(SIX + "pair a @a;", 3);
        marked(SIX + "pair f @f;", 3);
        marked(SIX + "pair a b; pair a @b;", 3);
        marked(SIX + "pair a b; pair b @a;", 3);
        marked(SIX + "pair a b; pair c d; pair e f; pair d @c;", 3);
        marked(SIX + "pair a b;pair a c;pair a d;pair a e;pair a f;pair f @a;", 3);
        sound(SIX + "pair a b; pair b c; pair c a;");
        sound(SIX + "pair a b; pair c d; pair e f;");
    }

    private static void noSuchSleeper() {
        CHECK.says("4 NAME: (at it) no such SLEEPER told ahead (a NAME told more than once is that of the first one).");
        marked("pair @a b;", 4);
        marked("sleeper a 1 1 1 1; pair @b a;", 4);
        marked("sleeper a 1 1 1 1; pair a @b;", 4);
        marked("sleeper a 1 1 1 1; pair @b b;", 4);
        marked("sleeper a 1 1 1 1; pair a @b; sleeper b 1 1 1 1;", 4);
        marked("sleeper a 1 1 1 1; crosser b 1 1 1; pair a @b;", 4);
        marked("crosser a 1 1 1; sleeper b 1 1 1 1; pair @a b;", 4);
        marked("sleeper a 1 1 1 1; sleeper ab 1 1 1 1; pair a @b;", 4);
        sound(SIX + "pair a f; pair f b;");
        // who has a name told twice is no other fault: the second telling comes first by its place
        marked("sleeper a 1 1 1 1; sleeper b 1 1 1 1; sleeper @a 1 1 1 1; pair a b; pair a b;", 3);
        marked("crosser a 1 1 1; sleeper @a 1 1 1 1; pair a q;", 3);
    }

    private static void wrongNumbers() {
        CHECK.says("5 WRONG (at the INT): a number not as told above;");
        marked("spans @0;", 5);
        marked("spans @6;", 5);
        marked("sleeper a @100 10 10 5;", 5);
        marked("sleeper a 99 @10 10 5;", 5);
        marked("sleeper a 99 9 @10 5;", 5);
        marked("sleeper a 99 9 9 @5;", 5);
        marked("crosser a @100 10 100;", 5);
        marked("crosser a 99 @10 100;", 5);
        marked("crosser a 99 9 @100;", 5);
        marked("dawn @100;", 5);
        marked("bonus @100;", 5);
        marked("spans 3; spans @9999; spans 3;", 5);
        sound("holds = 9999; wakes = 9999; deepens = 9999; seed 9999;");
        sound("holds = 100 * (0 - 9999) / 1000;");
    }

    private static void spanThatThereIsNot() {
        CHECK.says("(at the text's end) a SLEEPER is on a SPAN that there is not.");
        for (int spans = 1; spans <= 5; spans++) {
            for (int span = 0; span <= 4; span++) {
                String before = "spans " + spans + "; sleeper a 1 1 1 " + span + "; ";
                String behind = "sleeper a 1 1 1 " + span + "; spans " + spans + ";\n";
                fault(before, span < spans ? 0 : 5, span < spans ? -1 : before.length());
                fault(behind, span < spans ? 0 : 5, span < spans ? -1 : behind.length());
            }
        }
        marked("sleeper a 1 1 1 3;@", 5);
        sound("sleeper a 1 1 1 2;");
        marked("spans 5; sleeper a 1 1 1 4; spans 4;@", 5);
        sound("spans 1; sleeper a 1 1 1 4; spans 5;");
        // the last of six
        marked(SIX.replace("f 1 1 1 1", "f 1 1 1 3") + "@", 5);
    }
}
