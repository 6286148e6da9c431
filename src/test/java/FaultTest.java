/** Promises 4 and 5: each fault of a text, at its place. */
public final class FaultTest {
    private static final Check CHECK = new Check();

    private static void fault(String text, int fault, int place) {
        SleepBridge x = new SleepBridge();
        String call = text.length() > 90 ? text.substring(0, 90) + ".." : text;
        CHECK.due("read of " + call, Check.read(x, text), fault);
        CHECK.due("place of " + call, x.place(), fault == 0 ? -1 : place);
    }

    private static void sound(String text) {
        fault(text, 0, -1);
    }

    /** The fault is where the mark stands. */
    private static void marked(String text, int fault) {
        fault(text.replace("@", ""), fault, text.indexOf('@'));
    }

    public static void main(String[] args) {
        tokens();
        syntax();
        room();
        roomOfTokens();
        twice();
        namesDiffer();
        name();
        wrong();
        firstOfAll();
        CHECK.end();
    }

    private static void tokens() {
        sound("");
        sound(" \t\r\n");
        sound("spans3;dawn4;sleeper a9 9 9 2;");
        sound("spans\t3\r\n;\ndawn 4 ;");
        sound("spans 0003;");
        marked("spans @00003;", 1);
        marked("seed @12345;", 1);
        sound("seed 9999;");
        sound("sleeper abcdefgh 1 1 1 1;");
        marked("sleeper @abcdefghi 1 1 1 1;", 1);
        marked("@spansdawn 3;", 1);
        marked("@spanss 3;", 1);
        sound("sleeper spanss 1 1 1 1;");
        marked("@Spans 3;", 1);
        marked("spans 3; sleeper a@B 1 1 1 1;", 1);
        for (String word : new String[] {"spans", "sleeper", "pair", "crosser", "holds", "wakes", "deepens", "dawn", "bonus", "seed", "if", "then",
            "else", "depth", "weight", "hour", "noise", "which", "span", "beside", "load", "wage"}) {
            marked("sleeper @" + word + " 1 1 1 1;", 1);
            marked("crosser @" + word + " 1 1 1;", 1);
        }
        for (char none : new char[] {0, 1, 8, 11, 12, 14, 31, '!', '.', ',', ':', '>', '[', '_', '`', '{', 'A', 'Z', 127, 128, 160, 233, 255}) {
            fault("spans 3;" + none, 1, 8);
            fault("holds = 1 " + none + ";", 1, 10);
        }
    }

    private static void syntax() {
        marked("spans@", 1);
        marked("spans @", 1);
        marked("spans 3@", 1);
        marked("spans 3 \n@", 1);
        marked("spans 3;@;", 1);
        marked("spans @three;", 1);
        marked("spans 3 @4;", 1);
        marked("@3;", 1);
        marked("@ann;", 1);
        marked("@if;", 1);
        marked("@depth;", 1);
        marked("sleeper @1;", 1);
        marked("sleeper a 1 2 3@;", 1);
        marked("sleeper a 1 2 3 4 @5;", 1);
        marked("pair a@;", 1);
        marked("pair a b @c;", 1);
        marked("pair @1 2;", 1);
        marked("crosser c 1 2@;", 1);
        marked("crosser c 1 2 3 @4;", 1);
        marked("dawn @;", 1);
        marked("bonus @a;", 1);
        marked("seed 1@", 1);
        marked("holds @1;", 1);
        marked("holds = @;", 1);
        marked("holds = 1 +@;", 1);
        marked("holds = 1 * @* 2;", 1);
        marked("holds = @- 1;", 1);
        marked("holds = (1@;", 1);
        marked("holds = 1@);", 1);
        marked("holds = (@);", 1);
        marked("holds = 1 @2;", 1);
        marked("holds = 1 @depth;", 1);
        marked("holds = @ann;", 1);
        marked("holds = 1 @< 2;", 1);
        marked("holds = @= 1;", 1);
        marked("wakes = if 1 @then 2 else 3;", 1);
        marked("wakes = if 1 < 2 @3;", 1);
        marked("wakes = if 1 < 2 then 3@;", 1);
        marked("wakes = if 1 < 2 then 3 else @;", 1);
        marked("wakes = if 1 < 2 then @if 1 < 2 then 3 else 4 else 5;", 1);
        marked("wakes = 1 + @if 1 < 2 then 3 else 4;", 1);
        marked("wakes = (@if 1 < 2 then 3 else 4);", 1);
        marked("wakes = if 1 < 2 @< 3 then 3 else 4;", 1);
        marked("@else = 1;", 1);
        sound("wakes = if (1) < (2) then (3) else if 4 < 5 then 6 else 7;");
        sound("deepens = 1 - 2 * (3 + depth) / hour - (noise);");
    }

    private static void room() {
        String six = "sleeper a 1 1 1 1;sleeper b 1 1 1 1;sleeper c 1 1 1 1;sleeper d 1 1 1 1;sleeper e 1 1 1 1;sleeper f 1 1 1 1;";
        String pairs = "pair a b;pair a c;pair a d;pair a e;pair a f;pair b c;";
        String five = "crosser u 1 1 1;crosser v 1 1 1;crosser w 1 1 1;crosser x 1 1 1;crosser y 1 1 1;";
        sound(six + pairs + five);
        marked(six + "@sleeper g 1 1 1 1;", 2);
        marked(six + "@sleeper", 2);
        marked(six + pairs + "@pair b d;", 2);
        marked(six + pairs + " @pair a a;", 2);
        marked(five + "@crosser z 1 1 1;", 2);
        marked(five + "@crosser !", 2);
        marked(six + five + "spans @! ; sleeper g 1 1 1 1;", 1);
        String four = "if 1 < 2 then 3 else if 1 < 2 then 3 else if 1 < 2 then 3 else if 1 < 2 then 3 else ";
        sound("holds = " + four + "4; wakes = " + four + "4; deepens = " + four + "4; holds = " + four + "4;");
        marked("holds = " + four + "@if 1 < 2 then 3 else 4;", 2);
        marked("holds = 1; wakes = " + four + "@if;", 2);
        sound("holds = ((((((1)))))) + ((((((2)))))) * (((((3) + (4)) + (5))));");
        marked("holds = ((((((@(1)))))));", 2);
        marked("holds = (1) * (((((1 - (@(1)))))));", 2);
        marked("holds = if ((((((@(1 < 2", 2);
        marked("holds = ((((((@);", 1);
    }

    private static void roomOfTokens() {
        String most = "holds=1;".repeat(100);
        sound(most);
        sound(most + " \n ");
        marked(most + "@spans 3;", 2);
        marked(most + " @spans", 2);
        marked(most + "@;", 1);
        marked(most + "@!", 1);
        marked(most + "@abcdefghi", 1);
        marked("holds=1;".repeat(99) + "dawn 3;" + "spans @3;", 2);
        marked("holds=1;".repeat(99) + "dawn 3;" + "spans @;", 1);
        marked("holds=1;".repeat(99) + "dawn 3;" + "spans@", 1);
        marked("holds=1;".repeat(99) + "holds=1+@", 1);
        marked("holds=1;".repeat(99) + "holds=1+@1;", 2);
        marked("holds=1;".repeat(99) + "holds=(1@);", 2);
        marked("holds=1;".repeat(99) + "holds=(1@;", 1);
        sound("holds=1" + "+1".repeat(198) + ";");
        marked("holds=1" + "+1".repeat(198) + "+@1;", 2);
        marked("holds=(1)" + "+1".repeat(197) + "+@1;", 2);
        marked("holds = " + "1+".repeat(199) + "@1;", 2);
        sound("bonus 7;".repeat(133));
        // 2,000 bytes
        sound("spans 3;" + " ".repeat(1992));
        marked(" ".repeat(1999) + "@;", 1);
    }

    private static void twice() {
        marked("sleeper a 1 1 1 1; sleeper @a 2 2 2 2;", 3);
        marked("crosser a 1 1 1; crosser @a 2 2 2;", 3);
        marked("sleeper a 1 1 1 1; crosser @a 2 2 2;", 3);
        marked("crosser a 1 1 1; sleeper @a 2 2 2 2;", 3);
        sound("sleeper a 1 1 1 1; sleeper aa 2 2 2 2; crosser b 1 1 1; crosser ab 1 1 1;");
        String two = "sleeper a 1 1 1 1; sleeper b 1 1 1 1; sleeper c 1 1 1 1;";
        marked(two + "pair a @a;", 3);
        marked(two + "pair a b; pair a @b;", 3);
        marked(two + "pair a b; pair b @a;", 3);
        sound(two + "pair a b; pair c a; pair b c;");
        marked(two + "pair b c; pair a b; pair c @b; pair a a;", 3);
    }

    /** Each name of two letters among ten of one, eight letters that differ in one. */
    private static void namesDiffer() {
        for (char first = 'a'; first <= 'z'; first++) {
            for (char second = 'a'; second <= 'z'; second++) {
                StringBuilder text = new StringBuilder("sleeper " + first + second + " 1 1 1 1;");
                for (int i = 0; i < 10; i++) {
                    char one = (char) ('a' + (first + second * 3 + i * 5) % 26);
                    text.append(i < 5 ? "sleeper " : "crosser ").append(one).append(i < 5 ? " 1 1 1 1;" : " 1 1 1;");
                }
                if (first != 'i' || second != 'f') {
                    sound(text.toString());
                }
            }
        }
        for (int at = 0; at < 8; at++) {
            for (char letter = 'b'; letter <= 'z'; letter++) {
                String other = "aaaaaaaa".substring(0, at) + letter + "aaaaaaaa".substring(at + 1);
                sound("sleeper aaaaaaaa 1 1 1 1; crosser " + other + " 1 1 1; sleeper aaaaaaa 1 1 1 1;");
            }
        }
    }

    private static void name() {
        marked("pair @a b;", 4);
        marked("sleeper a 1 1 1 1; pair a @b;", 4);
        marked("sleeper a 1 1 1 1; pair @b a;", 4);
        marked("sleeper a 1 1 1 1; pair @b b;", 4);
        marked("sleeper a 1 1 1 1; pair a @b; sleeper b 1 1 1 1;", 4);
        marked("sleeper a 1 1 1 1; crosser b 1 1 1; pair a @b;", 4);
    }

    private static void wrong() {
        marked("spans @0;", 5);
        marked("spans @6;", 5);
        marked("spans @6; spans 3;", 5);
        sound("spans 1; spans 5;");
        marked("sleeper a @100 1 1 1;", 5);
        marked("sleeper a 99 @10 1 1;", 5);
        marked("sleeper a 99 9 @10 1;", 5);
        marked("sleeper a 99 9 9 @5;", 5);
        marked("crosser a @100 9 99;", 5);
        marked("crosser a 99 @10 99;", 5);
        marked("crosser a 99 9 @100;", 5);
        marked("dawn @100;", 5);
        marked("bonus @100;", 5);
        sound("spans 5; sleeper a 99 9 9 4; sleeper b 0 0 0 0; crosser c 99 9 99; crosser d 0 0 0; dawn 99; bonus 99; seed 9999; holds = 9999;");
        sound("dawn 0; bonus 0; seed 0;");
        marked("sleeper a 1 1 1 3; @", 5);
        sound("sleeper a 1 1 1 3; spans 4;");
        marked("spans 5; sleeper a 1 1 1 2; spans 2;\n@", 5);
        sound("spans 1; sleeper a 1 1 1 2; spans 3;");
    }

    private static void firstOfAll() {
        // 1 and 2 come ahead of all others, wherever these are
        marked("spans 0; sleeper a 1 1 1 1; sleeper a 1 1 1 1; pair a z; @x", 1);
        marked("spans 0; holds = ((((((@(1)))))));", 2);
        // the others by their place
        marked("spans @0; pair a b;", 5);
        marked("pair @a b; spans 0;", 4);
        marked("sleeper a 1 1 1 1; sleeper @a 100 1 1 1;", 3);
        marked("sleeper a @100 1 1 1; sleeper a 1 1 1 1;", 5);
        marked("sleeper a 1 1 1 4; pair a @a;", 3);
        marked("sleeper a 1 1 1 4; pair a @q; spans 7;", 4);
    }
}
