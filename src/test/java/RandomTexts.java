import java.util.ArrayList;
import java.util.List;
import java.util.Random;

/** Makes texts by a seed: sound ones, lively ones (in which crossers come over, fall and wake sleepers), and ones with a fault of each sort. */
final class RandomTexts {
    private static final String[] VARS = {"depth", "weight", "hour", "noise", "which", "span", "beside", "load", "wage"};
    private static final String[] ALL = {"spans", "sleeper", "pair", "crosser", "holds", "wakes", "deepens", "dawn", "bonus", "seed", "if", "then",
        "else", "depth", "weight", "hour", "noise", "which", "span", "beside", "load", "wage", ";", "=", "+", "-", "*", "/", "<", "(", ")", "0",
        "7", "10", "99", "100", "9999", "12345", "a", "b", "x", "abcdefgh", "abcdefghi", "A", ".", "_", "\u00e9", "\u0000", "!"};
    private static final String[] HOLDS = {"depth", "depth - noise", "depth - noise * 2 + beside * 3", "depth - load", "depth - hour",
        "if noise < 3 then depth else depth / (noise - 2)", "depth + weight - beside * 4", "40 - noise * 3", "if load < 1 then 20 else depth - 2 * load",
        "99 / beside", "30 - 10 * beside"};
    private static final String[] WAKES = {"noise", "noise * 3 + weight", "5", "hour * 2", "20 - depth / 4", "(100 - depth) / 8", "beside * 10",
        "if load < 1 then 0 else 30"};
    private static final String[] DEEPENS = {"1 - noise", "3 - noise / 2", "weight - 5", "0 - 1", "1", "beside - 1", "hour - 3"};
    private static final String[] NAMES = {"a", "b", "c", "d", "e", "f", "g", "h", "i", "ifs", "spanss", "abcdefgh", "abcdefgg"};
    private final Random random;

    RandomTexts(Random random) {
        this.random = random;
    }

    String sound() {
        List<String> tells = new ArrayList<>();
        int spans = 1 + random.nextInt(5);
        int sleepers = random.nextInt(7);
        int crossers = random.nextInt(6);
        if (spans != 3 || random.nextBoolean()) {
            tells.add("spans " + spans + ";");
        }
        for (int s = 0; s < sleepers; s++) {
            tells.add("sleeper " + name(s) + " " + random.nextInt(random.nextBoolean() ? 100 : 20) + " " + random.nextInt(10) + " "
                    + random.nextInt(10) + " " + random.nextInt(spans) + ";");
        }
        for (int one = 0; one < sleepers; one++) {
            for (int other = one + 1; other < sleepers; other++) {
                if (random.nextInt(sleepers * 2) == 0 && tells.stream().filter(tell -> tell.startsWith("pair")).count() < 6) {
                    boolean turned = random.nextBoolean();
                    tells.add("pair " + name(turned ? other : one) + " " + name(turned ? one : other) + ";");
                }
            }
        }
        for (int c = 0; c < crossers; c++) {
            tells.add("crosser " + name(10 + c) + " " + random.nextInt(random.nextBoolean() ? 8 : 40) + " " + random.nextInt(10) + " "
                    + random.nextInt(100) + ";");
        }
        addLaws(tells);
        if (random.nextInt(4) > 0) {
            tells.add("dawn " + (random.nextInt(8) == 0 ? random.nextInt(3) : random.nextInt(30)) + ";");
        }
        if (random.nextBoolean()) {
            tells.add("bonus " + random.nextInt(100) + ";");
        }
        if (random.nextInt(4) > 0) {
            tells.add("seed " + random.nextInt(10000) + ";");
        }
        return joined(tells);
    }

    private void addLaws(List<String> tells) {
        if (random.nextBoolean()) {
            tells.add("holds = " + law() + ";");
        }
        if (random.nextInt(3) > 0) {
            tells.add("wakes = " + (random.nextBoolean() ? law() : String.valueOf(random.nextInt(50))) + ";");
        }
        if (random.nextInt(3) > 0) {
            tells.add("deepens = " + (random.nextBoolean() ? law() : random.nextInt(4) + " - " + random.nextInt(4)) + ";");
        }
        if (random.nextInt(5) == 0) {
            tells.add("holds = " + law() + ";");
        }
    }

    private static String name(int i) {
        return i % 3 == 0 ? "sleep" + (char) ('a' + i) : i % 3 == 1 ? "" + (char) ('a' + i) : "abcdefg" + (char) ('a' + i);
    }

    private String law() {
        StringBuilder law = new StringBuilder();
        int ifs = random.nextInt(3) == 0 ? random.nextInt(5) : 0;
        for (int i = 0; i < ifs; i++) {
            law.append("if ").append(sum(2)).append(" < ").append(sum(2)).append(" then ").append(sum(2)).append(" else ");
        }
        return law.append(sum(3)).toString();
    }

    private String sum(int deep) {
        StringBuilder sum = new StringBuilder(product(deep));
        for (int i = random.nextInt(3); i > 0; i--) {
            sum.append(random.nextBoolean() ? " + " : " - ").append(product(deep));
        }
        return sum.toString();
    }

    private String product(int deep) {
        StringBuilder product = new StringBuilder(unit(deep));
        for (int i = random.nextInt(6) - 3; i > 0; i--) {
            product.append(random.nextBoolean() ? " * " : " / ").append(unit(deep));
        }
        return product.toString();
    }

    private String unit(int deep) {
        int sort = random.nextInt(deep > 0 ? 6 : 5);
        if (sort == 5) {
            return "(" + sum(deep - 1) + ")";
        }
        return sort < 2 ? String.valueOf(random.nextInt(random.nextInt(8) == 0 ? 10000 : 12)) : VARS[random.nextInt(VARS.length)];
    }

    private String joined(List<String> tells) {
        String blanks = " \t\n\r";
        StringBuilder text = new StringBuilder();
        for (String tell : tells) {
            text.append(tell);
            for (int i = random.nextInt(2); i > 0; i--) {
                text.append(blanks.charAt(random.nextInt(4)));
            }
        }
        return text.length() > 2000 ? "spans 4;" : text.toString();
    }

    /** A sound text in which something is put, left out or turned round. */
    String unsound() {
        List<String> words = new ArrayList<>(List.of(sound().replaceAll("([;=+*/<()-])", " $1 ").trim().split("\\s+")));
        for (int i = 1 + random.nextInt(2); i > 0 && !words.isEmpty(); i--) {
            int at = random.nextInt(words.size());
            switch (random.nextInt(5)) {
                case 0 -> words.remove(at);
                case 1 -> words.add(at, ALL[random.nextInt(ALL.length)]);
                case 2 -> words.set(at, ALL[random.nextInt(ALL.length)]);
                case 3 -> words.set(at, words.get(random.nextInt(words.size())));
                default -> turnTells(words);
            }
        }
        StringBuilder text = new StringBuilder();
        for (String word : words) {
            text.append(word);
            if (random.nextInt(8) > 0) {
                text.append(' ');
            }
        }
        return text.length() > 2000 ? "spans 9;" : text.toString();
    }

    private void turnTells(List<String> words) {
        int from = words.indexOf(";");
        if (from >= 0) {
            List<String> first = new ArrayList<>(words.subList(0, from + 1));
            words.addAll(first);
            if (random.nextBoolean()) {
                words.subList(0, from + 1).clear();
            }
        }
    }

    /** Spans that bear about as much as crossers weigh, so that much goes on. */
    String lively() {
        List<String> tells = new ArrayList<>();
        int spans = 1 + random.nextInt(5);
        int sleepers = 2 + random.nextInt(5);
        tells.add("spans " + spans + ";");
        for (int s = 0; s < sleepers; s++) {
            int span = s < spans && random.nextInt(3) > 0 ? s : random.nextInt(spans);
            tells.add("sleeper " + NAMES[s] + " " + (20 + random.nextInt(60)) + " " + random.nextInt(10) + " " + random.nextInt(10) + " " + span + ";");
        }
        if (random.nextBoolean()) {
            tells.add("pair b a;");
        }
        for (int c = 1 + random.nextInt(5); c > 0; c--) {
            int load = random.nextInt(6) == 0 ? 0 : random.nextInt(random.nextInt(5) == 0 ? 100 : 25);
            tells.add("crosser x" + NAMES[c] + " " + load + " " + random.nextInt(10) + " " + random.nextInt(100) + ";");
        }
        tells.add("holds = " + HOLDS[random.nextInt(HOLDS.length)] + ";");
        tells.add("wakes = " + WAKES[random.nextInt(WAKES.length)] + ";");
        tells.add("deepens = " + DEEPENS[random.nextInt(DEEPENS.length)] + ";");
        tells.add("dawn " + (random.nextInt(4) == 0 ? random.nextInt(100) : 5 + random.nextInt(25)) + ";");
        tells.add("bonus " + random.nextInt(9) + "; seed " + (random.nextInt(4) == 0 ? 9980 + random.nextInt(20) : random.nextInt(10000)) + ";");
        return joined(tells);
    }

    /** Names told twice or not at all, numbers too large: faults 3 to 5, often several, sometimes none. */
    String misnamed() {
        List<String> tells = new ArrayList<>();
        for (int s = random.nextInt(5); s > 0; s--) {
            tells.add("sleeper " + name() + " " + number(99) + " " + number(9) + " " + number(9) + " " + number(4) + ";");
        }
        for (int c = random.nextInt(3); c > 0; c--) {
            tells.add(random.nextInt(tells.size() + 1), "crosser " + name() + " " + number(99) + " " + number(9) + " " + number(99) + ";");
        }
        for (int p = random.nextInt(4); p > 0; p--) {
            int at = random.nextInt(3) > 0 ? tells.size() : random.nextInt(tells.size() + 1);
            tells.add(at, "pair " + nameIn(tells) + " " + nameIn(tells) + ";");
        }
        for (String sort : new String[] {"spans ", "spans ", "dawn ", "bonus "}) {
            if (random.nextInt(3) == 0) {
                tells.add(random.nextInt(tells.size() + 1), sort + number(sort.equals("spans ") ? 5 : 99) + ";");
            }
        }
        return joined(tells);
    }

    private String name() {
        return NAMES[random.nextInt(NAMES.length)];
    }

    private String number(int most) {
        int sort = random.nextInt(30);
        return String.valueOf(sort == 0 ? most + 1 : sort == 1 ? random.nextInt(10000) : sort == 2 ? most : random.nextInt(most + 1));
    }

    private String nameIn(List<String> tells) {
        String tell = tells.isEmpty() ? "" : tells.get(random.nextInt(tells.size()));
        return tell.startsWith("sleeper") && random.nextInt(8) > 0 ? tell.split(" ")[1] : name();
    }

    /** About as many of a sort as there is room for, one more or one less: fault 2, or none. */
    String crowded() {
        StringBuilder text = new StringBuilder();
        switch (random.nextInt(6)) {
            case 0 -> addMany(text, "sleeper # 1 1 1 0;", 5 + random.nextInt(3));
            case 1 -> addMany(text, "crosser # 1 1 1;", 4 + random.nextInt(3));
            case 2 -> {
                addMany(text, "sleeper # 1 1 1 0;", 5);
                String[] pairs = {"a b", "a c", "a d", "a e", "b c", "d b", "e b"};
                for (int p = 5 + random.nextInt(3); p > 0; p--) {
                    text.append("pair ").append(pairs[p - 1]).append(';');
                }
            }
            case 3 -> {
                text.append("wakes = ");
                addMany(text, "if 1 < 1 then 1 else ", 3 + random.nextInt(3));
                text.append("1;");
            }
            case 4 -> {
                text.append("wakes = 1 + ");
                int open = 5 + random.nextInt(3);
                addMany(text, "(", open);
                text.append("hour");
                addMany(text, ")", open);
                text.append(" * (2);");
            }
            default -> {
                addMany(text, "dawn 9;", 130);
                text.append("wakes = hour");
                addMany(text, "+ 1", 2 + random.nextInt(2));
                text.append(random.nextBoolean() ? "/ 2" : "").append(';');
            }
        }
        return text.toString();
    }

    private static void addMany(StringBuilder text, String piece, int many) {
        for (int i = 0; i < many; i++) {
            text.append(piece.replace("#", NAMES[i % NAMES.length]));
        }
    }
}
