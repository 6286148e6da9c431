import java.io.IOException;
import java.lang.reflect.Constructor;
import java.lang.reflect.Field;
import java.lang.reflect.Method;
import java.lang.reflect.Modifier;
import java.nio.file.Files;
import java.nio.file.Path;
import java.util.HashSet;
import java.util.Map;
import java.util.Set;
import java.util.TreeMap;
import java.util.TreeSet;
import java.util.regex.Matcher;
import java.util.regex.Pattern;

/** The public face, and those rules of LANGUAGE.md that can be seen from outside or by plain words. */
public final class LanguageTest {
    private static final Check CHECK = new Check();
    private static final String FACE = "feed(int,int,int,int,int)int back(int)int read()int place()int sleeper(int,int)int crosser(int,int)int "
            + "span(int,int)int tells(int,int)int dreams(int)int send(int)boolean lay(int,int)boolean lull(int)int hours(int)int night()int "
            + "undo()boolean then(int,boolean,int,int)int weakest(int)int better(int)int cheap(int,int)int order(int)int soon(int)int start(int)int "
            + "missed(int)int year(int,int,int)int tell(int,int)int forget()int awake(int,int)int ask(int)int hold(int)boolean restore(int)boolean "
            + "count(int)int";

    public static void main(String[] args) throws IOException {
        face();
        classes();
        words();
        CHECK.end();
    }

    private static void face() {
        Set<String> got = new TreeSet<>();
        Set<String> names = new TreeSet<>();
        for (Method method : SleepBridge.class.getDeclaredMethods()) {
            if (Modifier.isPublic(method.getModifiers())) {
                StringBuilder sign = new StringBuilder(method.getName()).append('(');
                for (Class<?> type : method.getParameterTypes()) {
                    sign.append(sign.charAt(sign.length() - 1) == '(' ? "" : ",").append(type);
                }
                got.add(sign.append(')').append(method.getReturnType()).toString());
                names.add(method.getName());
            }
        }
        CHECK.due("the public methods", got.equals(new TreeSet<>(Set.of(FACE.split(" ")))), true);
        for (Method method : SleepBridge.class.getDeclaredMethods()) {
            boolean isPublic = Modifier.isPublic(method.getModifiers());
            CHECK.due("public or private: " + method, isPublic || Modifier.isPrivate(method.getModifiers()), true);
            CHECK.due("no private one by a public name: " + method, isPublic || !names.contains(method.getName()), true);
        }
        for (Class<?> inner : SleepBridge.class.getDeclaredClasses()) {
            for (Method method : inner.getDeclaredMethods()) {
                CHECK.due("no inner one by a public name: " + method, names.contains(method.getName()), false);
            }
        }
        for (Field field : SleepBridge.class.getDeclaredFields()) {
            boolean isNone = field.getName().equals("NONE") && Modifier.isPublic(field.getModifiers()) && Modifier.isStatic(field.getModifiers());
            CHECK.due("private field: " + field, isNone || Modifier.isPrivate(field.getModifiers()), true);
        }
        Constructor<?>[] made = SleepBridge.class.getDeclaredConstructors();
        CHECK.due("one constructor", made.length, 1);
        CHECK.due("a public one without arguments", Modifier.isPublic(made[0].getModifiers()) && made[0].getParameterCount() == 0, true);
        CHECK.due("a final class", Modifier.isFinal(SleepBridge.class.getModifiers()), true);
    }

    private static void classes() {
        int count = 1;
        for (Class<?> inner : SleepBridge.class.getDeclaredClasses()) {
            count++;
            int own = 0;
            CHECK.due("static, not public: " + inner, Modifier.isStatic(inner.getModifiers()) && !Modifier.isPublic(inner.getModifiers()), true);
            for (Field field : inner.getDeclaredFields()) {
                boolean isStatic = Modifier.isStatic(field.getModifiers());
                own += isStatic ? 0 : 1;
                CHECK.due("what is static is final: " + field, !isStatic || Modifier.isFinal(field.getModifiers()), true);
            }
            CHECK.due("some twenty fields at most: " + inner, own <= 20, true);
            for (Method method : inner.getDeclaredMethods()) {
                CHECK.due("seven parameters at most: " + method, method.getParameterCount() <= 7, true);
            }
        }
        CHECK.due("some twelve classes at most", count <= 12, true);
    }

    private static void words() throws IOException {
        String source = Files.readString(Path.of("src/main/java/SleepBridge.java"));
        for (int i = 0; i < source.length(); i++) {
            char sign = source.charAt(i);
            CHECK.due("a plain sign at " + i, sign == '\n' || sign >= 32 && sign < 127, true);
        }
        String code = source.replaceAll("(?s)/\\*.*?\\*/", "").replaceAll("//[^\n]*", "").replaceAll("\"[^\"]*\"", "\"\"");
        for (String word : new String[] {"throw", "throws", "try", "catch", "finally", "synchronized", "assert", "import", "package", "var", "volatile",
            "transient", "native", "goto", "Random", "Thread", "Runtime", "hashCode", "toString", "Object", "currentTimeMillis", "nanoTime"}) {
            CHECK.due("no " + word, Pattern.compile("\\b" + word + "\\b").matcher(code).find(), false);
        }
        CHECK.due("no lambda, no arrow", code.contains("->"), false);
        CHECK.due("no method reference", code.contains("::"), false);
        CHECK.due("no Exact", code.contains("Exact"), false);
        Matcher system = Pattern.compile("System\\.(\\w+)").matcher(code);
        while (system.find()) {
            CHECK.due("of System " + system.group(1), system.group(1).equals("arraycopy"), true);
        }
        methodsAreShort(code);
        callsAreShallow(code);
        callsMakeNothing(code);
    }

    /** All rows are made as an object is made, so that no run of calls can fill the room. */
    private static void callsMakeNothing(String code) {
        for (String line : code.split("\n")) {
            if (Pattern.compile("\\bnew\\b").matcher(line).find()) {
                boolean isField = line.matches("    (    )?(private |final |private final )\\S+ \\w+ = new [^;]*;");
                boolean isShelf = line.strip().equals("cells = new int[Math.max(0, nights) * Night.CELLS];");
                CHECK.due("made with its object: " + line.strip(), isField || isShelf, true);
            }
        }
    }

    private static void methodsAreShort(String code) {
        String[] lines = code.split("\n");
        int from = 0;
        for (int i = 0; i < lines.length; i++) {
            if (lines[i].matches("\\s+[^=;]*\\([^;]*\\) \\{") && !lines[i].matches("\\s*\\}?\\s*(if|for|while|switch|else).*")) {
                from = i;
            }
            String indent = from == 0 ? "" : lines[from].replaceAll("\\S.*", "");
            if (from != 0 && lines[i].equals(indent + "}")) {
                CHECK.due("some sixty lines at most: " + lines[from].trim(), i - from < 60, true);
                from = 0;
            }
        }
    }

    /** Methods are known by their names alone; a call back to one that stands open is recursion, and not counted. */
    private static void callsAreShallow(String code) {
        Map<String, Set<String>> calls = new TreeMap<>();
        String[] lines = code.split("\n");
        Pattern head = Pattern.compile("\\s+(?:(?:public|private|static|final) )*(?:\\w+(?:\\[\\])? )?(\\w+)\\([^;]*\\) \\{");
        Set<String> open = new HashSet<>();
        for (String line : lines) {
            Matcher matcher = head.matcher(line);
            if (matcher.matches()) {
                open = calls.computeIfAbsent(matcher.group(1), name -> new TreeSet<>());
                continue;
            }
            Matcher call = Pattern.compile("(?<!new )\\b(\\w+)\\(").matcher(line);
            while (call.find()) {
                open.add(call.group(1));
            }
        }
        CHECK.due("methods were found", calls.size() > 100, true);
        for (String name : calls.keySet()) {
            CHECK.due("calls at most eight deep from " + name, deepest(name, calls, new HashSet<>()) <= 8, true);
        }
    }

    private static int deepest(String name, Map<String, Set<String>> calls, Set<String> standing) {
        int deepest = 0;
        if (standing.add(name)) {
            for (String next : calls.getOrDefault(name, Set.of())) {
                deepest = Math.max(deepest, standing.contains(next) ? 0 : deepest(next, calls, standing));
            }
            standing.remove(name);
        }
        return deepest + 1;
    }
}
