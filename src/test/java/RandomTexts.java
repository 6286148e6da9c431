import java.util.ArrayList;
import java.util.List;
import java.util.Random;

/** Makes texts by a seed: sound ones, and ones with a fault somewhere. */
final class RandomTexts {
    private static final String[] VARS = {"depth", "weight", "hour", "noise", "which", "span", "beside", "load", "wage"};
    private static final String[] ALL = {"spans", "sleeper", "pair", "crosser", "holds", "wakes", "deepens", "dawn", "bonus", "seed", "if", "then",
        "else", "depth", "weight", "hour", "noise", "which", "span", "beside", "load", "wage", ";", "=", "+", "-", "*", "/", "<", "(", ")", "0",
        "7", "10", "99", "100", "9999", "12345", "a", "b", "x", "abcdefgh", "abcdefghi", "A", ".", "_", "\u00e9", "\u0000", "!"};
    private final Random random;

    RandomTexts(Random random) {
        this.random = random;
    }

    String sound() {
        List<String> tells = new ArrayList<>();
        int spans = 1 + random.nextInt(5);
        int sleepers = random.nextInt(7);
        int crossers = random.nextInt(6);
        if (spans != 3 || random.nextBoolean()) {
            tells.add("spans " + spans + ";");
        }
        for (int s = 0; s < sleepers; s++) {
            tells.add("sleeper " + name(s) + " " + random.nextInt(random.nextBoolean() ? 100 : 20) + " " + random.nextInt(10) + " "
                    + random.nextInt(10) + " " + random.nextInt(spans) + ";");
        }
        for (int one = 0; one < sleepers; one++) {
            for (int other = one + 1; other < sleepers; other++) {
                if (random.nextInt(sleepers * 2) == 0 && tells.stream().filter(tell -> tell.startsWith("pair")).count() < 6) {
                    boolean turned = random.nextBoolean();
                    tells.add("pair " + name(turned ? other : one) + " " + name(turned ? one : other) + ";");
                }
            }
        }
        for (int c = 0; c < crossers; c++) {
            tells.add("crosser " + name(10 + c) + " " + random.nextInt(random.nextBoolean() ? 8 : 40) + " " + random.nextInt(10) + " "
                    + random.nextInt(100) + ";");
        }
        addLaws(tells);
        if (random.nextInt(4) > 0) {
            tells.add("dawn " + (random.nextInt(8) == 0 ? random.nextInt(3) : random.nextInt(30)) + ";");
        }
        if (random.nextBoolean()) {
            tells.add("bonus " + random.nextInt(100) + ";");
        }
        if (random.nextInt(4) > 0) {
            tells.add("seed " + random.nextInt(10000) + ";");
        }
        return joined(tells);
    }

    private void addLaws(List<String> tells) {
        if (random.nextBoolean()) {
            tells.add("holds = " + law() + ";");
        }
        if (random.nextInt(3) > 0) {
            tells.add("wakes = " + (random.nextBoolean() ? law() : String.valueOf(random.nextInt(50))) + ";");
        }
        if (random.nextInt(3) > 0) {
            tells.add("deepens = " + (random.nextBoolean() ? law() : random.nextInt(4) + " - " + random.nextInt(4)) + ";");
        }
        if (random.nextInt(5) == 0) {
            tells.add("holds = " + law() + ";");
        }
    }

    private static String name(int i) {
        return i % 3 == 0 ? "sleep" + (char) ('a' + i) : i % 3 == 1 ? "" + (char) ('a' + i) : "abcdefg" + (char) ('a' + i);
    }

    private String law() {
        StringBuilder law = new StringBuilder();
        int ifs = random.nextInt(3) == 0 ? random.nextInt(5) : 0;
        for (int i = 0; i < ifs; i++) {
            law.append("if ").append(sum(2)).append(" < ").append(sum(2)).append(" then ").append(sum(2)).append(" else ");
        }
        return law.append(sum(3)).toString();
    }

    private String sum(int deep) {
        StringBuilder sum = new StringBuilder(product(deep));
        for (int i = random.nextInt(3); i > 0; i--) {
            sum.append(random.nextBoolean() ? " + " : " - ").append(product(deep));
        }
        return sum.toString();
    }

    private String product(int deep) {
        StringBuilder product = new StringBuilder(unit(deep));
        for (int i = random.nextInt(6) - 3; i > 0; i--) {
            product.append(random.nextBoolean() ? " * " : " / ").append(unit(deep));
        }
        return product.toString();
    }

    private String unit(int deep) {
        int sort = random.nextInt(deep > 0 ? 6 : 5);
        if (sort == 5) {
            return "(" + sum(deep - 1) + ")";
        }
        return sort < 2 ? String.valueOf(random.nextInt(random.nextInt(8) == 0 ? 10000 : 12)) : VARS[random.nextInt(VARS.length)];
    }

    private String joined(List<String> tells) {
        String blanks = " \t\n\r";
        StringBuilder text = new StringBuilder();
        for (String tell : tells) {
            text.append(tell);
            for (int i = random.nextInt(2); i > 0; i--) {
                text.append(blanks.charAt(random.nextInt(4)));
            }
        }
        return text.length() > 2000 ? "spans 4;" : text.toString();
    }

    /** A sound text in which something is put, left out or turned round. */
    String unsound() {
        List<String> words = new ArrayList<>(List.of(sound().replaceAll("([;=+*/<()-])", " $1 ").trim().split("\\s+")));
        for (int i = 1 + random.nextInt(2); i > 0 && !words.isEmpty(); i--) {
            int at = random.nextInt(words.size());
            switch (random.nextInt(5)) {
                case 0 -> words.remove(at);
                case 1 -> words.add(at, ALL[random.nextInt(ALL.length)]);
                case 2 -> words.set(at, ALL[random.nextInt(ALL.length)]);
                case 3 -> words.set(at, words.get(random.nextInt(words.size())));
                default -> turnTells(words);
            }
        }
        StringBuilder text = new StringBuilder();
        for (String word : words) {
            text.append(word);
            if (random.nextInt(8) > 0) {
                text.append(' ');
            }
        }
        return text.length() > 2000 ? "spans 9;" : text.toString();
    }

    private void turnTells(List<String> words) {
        int from = words.indexOf(";");
        if (from >= 0) {
            List<String> first = new ArrayList<>(words.subList(0, from + 1));
            words.addAll(first);
            if (random.nextBoolean()) {
                words.subList(0, from + 1).clear();
            }
        }
    }
}
