import java.util.Arrays;
import java.util.List;

/** Terms I at their edges: what is a token, and with which a text goes on. */
public final class EdgeTokenTest {
    private static final Check CHECK = new Check();
    private static final String[] WORDS = {"spans", "sleeper", "pair", "crosser", "holds", "wakes", "deepens", "dawn", "bonus", "seed", "if", "then",
        "else", "depth", "weight", "hour", "noise", "which", "span", "beside", "load", "wage"};
    private static final String[] SIGNS = {";", "=", "+", "-", "*", "/", "<", "(", ")"};
    private static final String VARS = "depth weight hour noise which span beside load wage";
    private static final String TELLS = "spans sleeper pair crosser holds wakes deepens dawn bonus seed";

    public static void main(String[] args) {
        blanks();
        longest();
        letters();
        lengthsOfNames();
        wordsAreNoNames();
        lengthsOfInts();
        signs();
        allElse();
        goOnTells();
        goOnLaws();
        goOnUnits();
        CHECK.end();
    }

    private static void fault(String text, int fault, int place) {
        SleepBridge x = new SleepBridge();
        CHECK.dueRow("read and place of " + text, new int[] {Check.read(x, text), x.place()}, fault, place);
    }

    private static void sound(String text) {
        fault(text, 0, -1);
    }

    private static void blanks() {
        CHECK.says("TOKENS, the longest that can be, with blanks (9, 10, 13, 32) between or not:");
        for (int value = 0; value < 256; value++) {
            String text = "spans" + (char) value + "4;";
            if (value == 9 || value == 10 || value == 13 || value == 32 || value == '0') {
                sound(text);
                sound("dawn" + (char) value + "4" + (value == '0' ? "" : (char) value) + ";");
            } else if (value >= 'a' && value <= 'z') {
                fault(text, 1, 0);
            } else if (value >= '1' && value <= '9') {
                fault(text, 5, 5);
            } else {
                fault(text, 1, 5);
                fault((char) value + "spans 4;", 1, 0);
                fault("spans 4;" + (char) value, 1, 8);
            }
        }
        for (String blank : new String[] {"\t", "\n", "\r", " ", "\r\n", "  ", "\t \n \r"}) {
            sound(blank);
            sound(blank + "sleeper" + blank + "a" + blank + "1" + blank + "2" + blank + "3" + blank + "2" + blank + ";" + blank + "spans 4;" + blank);
        }
    }

    private static void longest() {
        CHECK.says("TOKENS, the longest that can be, with blanks (9, 10, 13, 32) between or not:");
        sound("spans4;dawn5;sleeper a1 2 3 0;crosser b1 2 3;");
        sound("sleeper a1 2 3 0;sleeper b1 2 3 0;pair a b;holds=if1<2then3else4;wakes=(1)+(2)*3/(4-5);");
        fault("sleeper ab 1 2 3 0; pair a b;", 4, 25);
        fault("spa ns 4;", 1, 0);
        fault("span s 4;", 1, 0);
        fault("spanss 4;", 1, 0);
        fault("dawnspan 4;", 1, 0);
        fault("dawn 1 2;", 1, 7);
        fault("holds = 1 2;", 1, 10);
        fault("holds = if 1 < 2 thenelse;", 1, 17);
        SleepBridge x = Check.of("sleeper a 12 3 4 0;");
        CHECK.dueRow("12 is one number", new int[] {x.sleeper(0, 0), x.sleeper(0, 1)}, 12, 3);
    }

    private static void letters() {
        CHECK.says("NAMES (letters a .. z, 8 at most, none of the words in quotes),");
        for (int value = 0; value < 256; value++) {
            char letter = (char) value;
            boolean isLetter = letter >= 'a' && letter <= 'z';
            boolean isBlank = " \t\n\r".indexOf(letter) >= 0;
            if (isLetter) {
                sound("sleeper " + letter + " 1 1 1 1;");
                sound("crosser " + letter + letter + " 1 1 1;");
                sound("sleeper q" + letter + "q 1 1 1 1;");
            } else if (!isBlank) {
                fault("sleeper " + letter + " 1 1 1 1;", 1, 8);
                fault("crosser " + letter + " 1 1 1;", 1, 8);
                fault("sleeper q" + letter + "q 1 1 1 1;", 1, letter >= '0' && letter <= '9' ? 10 : 9);
            }
        }
    }

    private static void lengthsOfNames() {
        CHECK.says("NAMES (letters a .. z, 8 at most, none of the words in quotes),");
        for (int length = 1; length <= 30; length++) {
            String name = "zyxwvutsrqponmlkjihgfedcba".repeat(2).substring(0, length);
            if (length <= 8) {
                sound("sleeper " + name + " 1 1 1 1; sleeper q 1 1 1 1; pair q " + name + ";");
                sound("crosser " + name + " 1 1 1;");
            } else {
                fault("sleeper " + name + " 1 1 1 1;", 1, 8);
                fault("crosser " + name + " 1 1 1;", 1, 8);
                fault("sleeper q 1 1 1 1; pair " + name + " q;", 1, 24);
                fault("sleeper q 1 1 1 1; pair q " + name + ";", 1, 26);
            }
        }
    }

    private static void wordsAreNoNames() {
        CHECK.says("NAMES (letters a .. z, 8 at most, none of the words in quotes),");
        for (String word : WORDS) {
            fault("sleeper " + word + " 1 1 1 1;", 1, 8);
            fault("crosser " + word + " 1 1 1;", 1, 8);
            fault("sleeper q 1 1 1 1; pair " + word + " q;", 1, 24);
            fault("sleeper q 1 1 1 1; pair q " + word + ";", 1, 26);
            String more = word + "z";
            String less = word.substring(1);
            sound("sleeper " + more + " 1 1 1 1; crosser " + less + " 1 1 1;");
            if (!word.equals("spans")) {
                sound("sleeper " + word.substring(0, word.length() - 1) + " 1 1 1 1;");
            }
        }
    }

    private static void lengthsOfInts() {
        CHECK.says("INTS (1 to 4 digits),");
        for (String number : new String[] {"3", "03", "003", "0003"}) {
            SleepBridge x = Check.of("spans 5; spans " + number + "; sleeper a " + number + " 1 1 1;");
            CHECK.dueRow(number, new int[] {x.count(0), x.sleeper(0, 0)}, 3, 3);
        }
        for (String number : new String[] {"00003", "000003", "10003", "65539", "4294967299", "18446744073709551619", "0".repeat(300) + "3"}) {
            fault("spans " + number + ";", 1, 6);
            fault("holds = 1 + " + number + ";", 1, 12);
            fault("sleeper a " + number + " 1 1 1;", 1, 10);
        }
        for (int number = 0; number <= 99; number++) {
            SleepBridge x = Check.of("sleeper a " + number + " 1 1 1;");
            CHECK.due("each digit counts", x.sleeper(0, 0), number);
        }
        for (int number : new int[] {1000, 1234, 4321, 9870, 9999}) {
            SleepBridge x = Check.of("sleeper a 1 1 1 1; holds = " + number + " - " + (number - 57) + ";");
            CHECK.due("four digits count", x.sleeper(0, 5), 57);
            x = Check.of("sleeper a 1 1 1 1; holds = " + number + " / 101;");
            CHECK.due("four digits count", x.sleeper(0, 5), number / 101);
        }
    }

    private static void signs() {
        CHECK.says("SIGNS ; = + - * / < ( ) .");
        for (int value = 33; value < 127; value++) {
            char sign = (char) value;
            if (sign >= 'a' && sign <= 'z' || sign >= '0' && sign <= '9') {
                continue;
            }
            String text = "holds = 1 " + sign + " 2;";
            if ("+-*/".indexOf(sign) >= 0) {
                sound(text);
            } else {
                fault(text, 1, sign == ';' ? 12 : 10);
            }
        }
        sound("holds=(1+2-3)*4/5;holds=if 1<2 then 3 else 4;");
        fault("holds == 1;", 1, 7);
        fault("holds = if 1 <= 2 then 3 else 4;", 1, 14);
        fault("holds = if 1 << 2 then 3 else 4;", 1, 14);
        fault("holds = 1 // 2;", 1, 11);
    }

    private static void allElse() {
        CHECK.says("A longer one, all else, is no TOKEN.");
        fault("spans 3; abcdefghi", 1, 9);
        fault("spans 3; spansssss 4;", 1, 9);
        fault("spans 3; 12345", 1, 9);
        fault("spans 3 abcdefghi;", 1, 8);
        fault("spans 3; sleeper abcdefghspans 1 1 1 1;", 1, 17);
        for (int value = 0; value < 256; value++) {
            char sign = (char) value;
            boolean isToken = sign >= 'a' && sign <= 'z' || sign >= '0' && sign <= '9' || " \t\n\r;=+-*/<()".indexOf(sign) >= 0;
            if (!isToken) {
                fault("spans 3; " + sign, 1, 9);
                fault("spans" + sign + "3;", 1, 5);
                fault("holds = " + sign + "1;", 1, 8);
                fault("holds = 1" + sign + ";", 1, 9);
            }
        }
    }

    /** With each token that is named a text goes on behind this, and with no other one. */
    private static void goesOn(String before, String with) {
        List<String> allowed = Arrays.asList(with.split(" "));
        for (String word : WORDS) {
            goesOnWith(before, word, allowed.contains(word));
        }
        for (String sign : SIGNS) {
            goesOnWith(before, sign, allowed.contains(sign));
        }
        goesOnWith(before, "zoe", allowed.contains("NAME"));
        goesOnWith(before, "1", allowed.contains("INT"));
        goesOnWith(before, "", allowed.contains("END"));
        for (String none : new String[] {"!", "abcdefghi", "12345", "Z", "."}) {
            goesOnWith(before, none, false);
        }
    }

    private static void goesOnWith(String before, String token, boolean may) {
        SleepBridge x = new SleepBridge();
        int place = before.length() + 1;
        boolean stopped = Check.read(x, before + " " + token) == 1 && x.place() == place;
        CHECK.due("goes on: " + before + " with " + (token.isEmpty() ? "the end" : token), !stopped, may);
    }

    private static void goOnTells() {
        CHECK.says("text: {TELL}.");
        goesOn("", TELLS + " END");
        goesOn("spans 3 ;", TELLS + " END");
        goesOn("holds = 1 ; dawn 3 ;", TELLS + " END");
        CHECK.says("TELL: 'spans' INT ';' | 'sleeper' NAME INT INT INT INT ';' | 'pair' NAME NAME ';' | 'crosser' NAME INT INT INT ';'"
                + " | ('holds' | 'wakes' | 'deepens') LAW ';' | 'dawn' INT ';' | 'bonus' INT ';' | 'seed' INT ';'.");
        for (String word : new String[] {"spans", "dawn", "bonus", "seed"}) {
            goesOn(word, "INT");
            goesOn(word + " 3", ";");
            goesOn(word + " 3 ;", TELLS + " END");
        }
        goesOn("sleeper", "NAME");
        goesOn("sleeper a", "INT");
        goesOn("sleeper a 1", "INT");
        goesOn("sleeper a 1 2", "INT");
        goesOn("sleeper a 1 2 3", "INT");
        goesOn("sleeper a 1 2 3 2", ";");
        goesOn("sleeper a 1 2 3 2 ;", TELLS + " END");
        goesOn("pair", "NAME");
        goesOn("pair a", "NAME");
        goesOn("pair a b", ";");
        goesOn("pair a b ;", TELLS + " END");
        goesOn("crosser", "NAME");
        goesOn("crosser a", "INT");
        goesOn("crosser a 1", "INT");
        goesOn("crosser a 1 2", "INT");
        goesOn("crosser a 1 2 3", ";");
        goesOn("crosser a 1 2 3 ;", TELLS + " END");
        for (String word : new String[] {"holds", "wakes", "deepens"}) {
            goesOn(word, "=");
            goesOn(word + " =", "if ( INT " + VARS);
            goesOn(word + " = 1", "; + - * /");
            goesOn(word + " = 1 ;", TELLS + " END");
        }
    }

    private static void goOnLaws() {
        CHECK.says("LAW: '=' {'if' E '<' E 'then' E 'else'} E.");
        String first = "( INT " + VARS;
        goesOn("holds = if", first);
        goesOn("holds = if 1", "< + - * /");
        goesOn("holds = if 1 <", first);
        goesOn("holds = if 1 < 2", "then + - * /");
        goesOn("holds = if 1 < 2 then", first);
        goesOn("holds = if 1 < 2 then 3", "else + - * /");
        goesOn("holds = if 1 < 2 then 3 else", "if " + first);
        goesOn("holds = if 1 < 2 then 3 else 4", "; + - * /");
        goesOn("holds = if 1 < 2 then 3 else if", first);
        goesOn("holds = if 1 < 2 then 3 else if 4 < 5 then 6 else", "if " + first);
        CHECK.says("E: PART {('+' | '-') PART}.");
        for (String sign : new String[] {"+", "-"}) {
            goesOn("holds = 1 " + sign, first);
            goesOn("holds = 1 " + sign + " 2", "; + - * /");
            goesOn("holds = if 1 " + sign, first);
            goesOn("holds = if 1 " + sign + " 2", "< + - * /");
        }
        CHECK.says("PART: UNIT {('*' | '/') UNIT}.");
        for (String sign : new String[] {"*", "/"}) {
            goesOn("holds = 1 " + sign, first);
            goesOn("holds = 1 " + sign + " 2", "; + - * /");
            goesOn("holds = if 1 < 2 then 3 " + sign, first);
            goesOn("holds = if 1 < 2 then 3 " + sign + " 2", "else + - * /");
        }
    }

    private static void goOnUnits() {
        CHECK.says("UNIT: INT | VAR | '(' E ')'.");
        String first = "( INT " + VARS;
        goesOn("holds = (", first);
        goesOn("holds = ( 1", ") + - * /");
        goesOn("holds = ( depth", ") + - * /");
        goesOn("holds = ( 1 +", first);
        goesOn("holds = ( 1 )", "; + - * /");
        goesOn("holds = ( 1 ) *", first);
        goesOn("holds = ( (", first);
        goesOn("holds = ( ( 1 )", ") + - * /");
        goesOn("holds = if ( 1 )", "< + - * /");
        goesOn("holds = if ( 1", ") + - * /");
        CHECK.says("VAR: 'depth' | 'weight' | 'hour' | 'noise' | 'which' | 'span' | 'beside' | 'load' | 'wage'.");
        for (String word : VARS.split(" ")) {
            goesOn("wakes = " + word, "; + - * /");
            sound("holds = " + word + "; wakes = 1 - " + word + " * " + word + "; deepens = if " + word + " < (" + word + ") then 1 else 2;");
        }
    }
}
