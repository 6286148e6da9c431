import java.io.IOException;
import java.nio.file.Files;
import java.nio.file.Path;
import java.util.ArrayList;
import java.util.Arrays;
import java.util.List;
import java.util.regex.Matcher;
import java.util.regex.Pattern;

/** The words that the Edge tests say they hold to are the document's, and no sentence of its terms and promises is without a test. */
public final class QuoteTest {
    private static final Check CHECK = new Check();
    private static final Path DOCUMENT = Path.of("../shared/DOC.md");
    private static final Path TESTS = Path.of("src/test/java");

    public static void main(String[] args) throws IOException {
        if (!Files.exists(DOCUMENT)) {
            System.out.println("no document here to look into");
            return;
        }
        String all = plain(Files.readString(DOCUMENT));
        String asked = plain(termsAndPromises(Files.readString(DOCUMENT)));
        boolean[] said = new boolean[asked.length()];
        for (String words : quotes()) {
            CHECK.due("the document says: " + words, all.contains(plain(words)), true);
            mark(asked, plain(words), said);
        }
        for (String rest : unsaid(asked, said)) {
            CHECK.due("no test says it holds to: " + rest, false, true);
        }
        CHECK.end();
    }

    private static String plain(String text) {
        return text.replaceAll("\\s+", " ").trim();
    }

    /** Without headings, fences and the heads of methods. */
    private static String termsAndPromises(String document) {
        int from = document.indexOf("## Terms");
        int to = document.indexOf("## Not promised");
        CHECK.due("the document has its parts", from >= 0 && to > from, true);
        if (from < 0 || to < from) {
            return "";
        }
        return document.substring(from, to).replaceAll("(?m)^#.*$", "").replaceAll("(?m)^```.*$", "").replaceAll("(?m)^`[^`]*`:", "")
                .replaceAll("==== [IV]+\\.", "");
    }

    private static List<String> quotes() throws IOException {
        List<String> quotes = new ArrayList<>();
        Pattern says = Pattern.compile("says\\(((?:\\s*\\+?\\s*\"[^\"]*\")+)\\)");
        try (var files = Files.list(TESTS)) {
            for (Path file : files.filter(path -> path.getFileName().toString().matches("Edge.*Test\\.java")).sorted().toList()) {
                Matcher matcher = says.matcher(Files.readString(file));
                while (matcher.find()) {
                    StringBuilder words = new StringBuilder();
                    Matcher part = Pattern.compile("\"([^\"]*)\"").matcher(matcher.group(1));
                    while (part.find()) {
                        words.append(part.group(1));
                    }
                    quotes.add(words.toString());
                }
            }
        }
        CHECK.due("there are some", quotes.size() > 100, true);
        return quotes;
    }

    private static void mark(String text, String words, boolean[] said) {
        for (int at = text.indexOf(words); at >= 0; at = text.indexOf(words, at + 1)) {
            Arrays.fill(said, at, at + words.length(), true);
        }
    }

    private static List<String> unsaid(String text, boolean[] said) {
        List<String> rests = new ArrayList<>();
        StringBuilder rest = new StringBuilder();
        for (int i = 0; i <= text.length(); i++) {
            if (i < text.length() && !said[i]) {
                rest.append(text.charAt(i));
            } else {
                if (!rest.toString().isBlank()) {
                    rests.add(rest.toString());
                }
                rest.setLength(0);
            }
        }
        return rests;
    }
}
