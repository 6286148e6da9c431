import java.io.IOException;
import java.lang.reflect.Method;
import java.nio.ByteBuffer;
import java.nio.charset.StandardCharsets;
import java.nio.file.Files;
import java.nio.file.Path;
import java.util.ArrayList;
import java.util.Arrays;
import java.util.HashSet;
import java.util.List;
import java.util.Set;
import java.util.regex.Matcher;
import java.util.regex.Pattern;

/** What README.md shows is so: its text has no fault, its Java is the one below, its run answers as it says and has every call in it. */
public final class ReadmeTest {
    private static final Check CHECK = new Check();
    private static final Pattern CALL = Pattern.compile("(\\w+)\\(([^)]*)\\)\\s+(\\S+)\\s.*");

    public static void main(String[] args) throws IOException, ReflectiveOperationException {
        String page = Files.readString(Path.of("README.md"));
        List<String> texts = blocks(page, "text");
        List<String> programs = blocks(page, "java");
        CHECK.dueRow("a text, a run and a program", new int[] {texts.size(), programs.size()}, 2, 1);
        SleepBridge bridge = new SleepBridge();
        CHECK.due("the fault of the text", readText(bridge, texts.get(0)), 0);
        Set<String> called = run(bridge, texts.get(1));
        called.addAll(List.of("feed", "back", "read"));
        for (Method method : SleepBridge.class.getDeclaredMethods()) {
            if (java.lang.reflect.Modifier.isPublic(method.getModifiers())) {
                CHECK.due("shown: " + method.getName(), called.contains(method.getName()), true);
            }
        }
        String own = Files.readString(Path.of("src/test/java/ReadmeTest.java"));
        CHECK.due("the program is readText()", plain(own).contains(plain(programs.get(0))), true);
        CHECK.end();
    }

    private static List<String> blocks(String page, String sort) {
        List<String> blocks = new ArrayList<>();
        Matcher matcher = Pattern.compile("(?s)```" + sort + "\n(.*?)```").matcher(page);
        while (matcher.find()) {
            blocks.add(matcher.group(1));
        }
        return blocks;
    }

    private static String plain(String text) {
        return text.replaceAll("\\s+", " ").trim();
    }

    static int readText(SleepBridge bridge, String text) {
        byte[] bytes = text.getBytes(StandardCharsets.ISO_8859_1);
        ByteBuffer twenties = ByteBuffer.wrap(Arrays.copyOf(bytes, (bytes.length + 19) / 20 * 20));
        while (twenties.hasRemaining()) {
            bridge.feed(twenties.getInt(), twenties.getInt(), twenties.getInt(), twenties.getInt(), twenties.getInt());
        }
        bridge.back(twenties.capacity() - bytes.length);
        return bridge.read();
    }

    /** Answers which calls the run has. */
    private static Set<String> run(SleepBridge bridge, String rows) throws ReflectiveOperationException {
        Set<String> called = new HashSet<>();
        for (String row : rows.split("\n")) {
            if (row.isBlank()) {
                continue;
            }
            Matcher matcher = CALL.matcher(row);
            CHECK.due("a call with its answer: " + row, matcher.matches(), true);
            String[] words = matcher.group(2).isEmpty() ? new String[0] : matcher.group(2).split(", ");
            Object answer = call(bridge, matcher.group(1), words);
            CHECK.due("README: " + row.trim() + ": " + answer, String.valueOf(answer).equals(matcher.group(3)), true);
            called.add(matcher.group(1));
        }
        return called;
    }

    private static Object call(SleepBridge bridge, String name, String[] words) throws ReflectiveOperationException {
        Class<?>[] types = new Class<?>[words.length];
        Object[] values = new Object[words.length];
        for (int i = 0; i < words.length; i++) {
            boolean isFlag = words[i].equals("true") || words[i].equals("false");
            types[i] = isFlag ? boolean.class : int.class;
            values[i] = isFlag ? (Object) Boolean.valueOf(words[i]) : (Object) Integer.valueOf(words[i]);
        }
        return SleepBridge.class.getMethod(name, types).invoke(bridge, values);
    }
}
