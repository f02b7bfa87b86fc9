import java.io.File;
import java.lang.reflect.Method;
import java.lang.reflect.Modifier;
import java.net.URL;
import java.net.URLClassLoader;
import java.nio.file.Files;
import java.nio.file.Path;
import java.util.List;
import java.util.Map;
import java.util.Set;
import java.util.TreeMap;
import java.util.TreeSet;
import java.util.regex.Matcher;
import java.util.regex.Pattern;
import javax.tools.ToolProvider;

/** README.md as it stands: its example answers so, its rows have every call with its codes, its table every test. */
public final class ReadmeTest {
    private static final String TEXT = "butt eye 4 6;shooter shake 3;shooter shake 9;";
    private static final int[] TOLD = {Integer.MIN_VALUE, -1, 0, 1, 2, 3, 10, 41, 1000};
    private static final int APART = 99000000;

    public static void main(String[] args) throws Exception {
        String page = Files.readString(Path.of("README.md"));
        example(page);
        everyCall(page);
        everyCode(page);
        everyTest(page);
        Check.end("ReadmeTest");
    }

    // ---- the example

    /** The page's code is compiled as it stands, but that each call with an answer behind it is asked for it. */
    private static void example(String page) throws Exception {
        StringBuilder functions = new StringBuilder();
        StringBuilder steps = new StringBuilder();
        Matcher block = Pattern.compile("(?s)```java\n(.*?)```").matcher(page);
        while (block.find()) {
            (block.group(1).startsWith("static ") ? functions : steps).append(block.group(1));
        }
        Matcher call = Pattern.compile("(?m)^(x\\.\\w+\\(.*\\)); +// (-?\\d+)(:.*)?$").matcher(steps);
        int asked = (int) call.results().count();
        Check.due("the example's answers", asked > 30 ? 1 : 0, 1);
        String due = call.reset().replaceAll("wrong += $1 == $2 ? 0 : 1;");
        Check.due("calls without an answer", due.contains("\nx.") ? 1 : 0, 0);
        Path folder = Files.createTempDirectory("readme");
        Path file = folder.resolve("Example.java");
        Files.writeString(file, "public final class Example {\n" + functions
            + "public static int wrongOnes() {\nint wrong = 0;\n" + due + "return wrong;\n}\n}\n");
        int code = ToolProvider.getSystemJavaCompiler().run(null, null, null, "-cp", System.getProperty("java.class.path"),
            "-d", folder.toString(), file.toString());
        Check.due("the example compiles", code, 0);
        if (code == 0) {
            try (URLClassLoader loader = new URLClassLoader(new URL[] {folder.toUri().toURL()})) {
                Object wrong = loader.loadClass("Example").getMethod("wrongOnes").invoke(null);
                Check.due("the example's wrong answers", (Integer) wrong, 0);
            }
        }
        for (File f : folder.toFile().listFiles()) {
            f.delete();
        }
        Files.delete(folder);
    }

    // ---- the calls

    /** Of each call's row: its name and parameters, and what stands under "refused". */
    private static Map<String, String> rows(String page) {
        Map<String, String> rows = new TreeMap<>();
        Matcher row = Pattern.compile("(?m)^\\| `(\\w+\\([^`]*\\))` \\| [^|]+ \\|([^|]*)\\|$").matcher(page);
        while (row.find()) {
            Check.due("one row of " + row.group(1), rows.containsKey(row.group(1)) ? 1 : 0, 0);
            rows.put(row.group(1), row.group(2));
        }
        return rows;
    }

    /** The calls of the document's face stand on the page, each by the names of its parameters, and no others. */
    private static void everyCall(String page) throws Exception {
        Path doc = Path.of("../shared/DOC.md");
        if (!Files.isReadable(doc)) {
            System.out.println("no document beside the checkout: its calls are not looked up");
            return;
        }
        Set<String> face = new TreeSet<>();
        Matcher call = Pattern.compile("(?m)^    public (?:int|long) (\\w+)\\((.*)\\);$").matcher(Files.readString(doc));
        while (call.find()) {
            face.add(call.group(1) + "(" + call.group(2).replaceAll("(int|long) ", "") + ")");
        }
        Check.due("calls of the face", face.size(), 46);
        Check.due("rows: " + rows(page).keySet() + ", calls: " + face, rows(page).keySet().equals(face) ? 1 : 0, 1);
    }

    // ---- the codes

    private static Set<Long> codesIn(String refused) {
        Set<Long> codes = new TreeSet<>();
        Matcher code = Pattern.compile("-\\d+").matcher(refused);
        while (code.find()) {
            codes.add(Long.valueOf(code.group()));
        }
        return codes;
    }

    /** The codes that a call's row says are those that it answers, whatever it is told. */
    private static void everyCode(String page) throws Exception {
        Map<String, Set<Long>> met = new TreeMap<>();
        for (Method m : LashRing.class.getDeclaredMethods()) {
            if (Modifier.isPublic(m.getModifiers())) {
                met.put(m.getName(), new TreeSet<>());
                tryAll(m, met.get(m.getName()));
            }
        }
        for (int n = 0; n < 5; n++) {
            String[] texts = {"?", "top", "butt eye 21 21;", TEXT + TEXT.substring(13) + "shooter shake 1;", TEXT};
            long answer = Check.tell(new LashRing(), texts[n]);
            met.get("butt").add(answer < 0 ? answer : 0);
        }
        LashRing full = new LashRing();
        for (int i = 0; i < 46; i++) {
            long answer = full.feed(0, 0, 0, 0, 0);
            met.get("feed").add(answer < 0 ? answer : 0);
        }
        Map<String, String> rows = rows(page);
        for (Map.Entry<String, String> row : rows.entrySet()) {
            Set<Long> codes = met.getOrDefault(row.getKey().replaceAll("\\(.*", ""), Set.of());
            codes.remove(0L);
            Set<Long> said = codesIn(row.getValue());
            Check.due(row.getKey() + " is refused by " + codes + ", the page says " + said, codes.equals(said) ? 1 : 0, 1);
        }
    }

    /** Trays: 0 is missing, 1 is empty, 2 has a place where nobody can have shot, 3 has what is no place. */
    private static LashRing ready() {
        LashRing x = Check.ring(TEXT + "strays:0;");
        x.numbers(1, 3, 0);
        x.numbers(2, 3, 1);
        x.write(2, 0, 20);
        x.numbers(3, 3, 1);
        x.write(3, 0, 99);
        return x;
    }

    private static void tryAll(Method m, Set<Long> codes) throws Exception {
        int count = m.getParameterCount();
        int ways = (int) Math.pow(TOLD.length, count);
        boolean feeds = m.getName().equals("feed");
        LashRing x = ready();
        for (int way = 0; way < (feeds ? 1 : ways); way++) {
            if (way % 50 == 0) {
                x = ready();
            }
            Object[] told = new Object[count];
            int rest = way;
            for (int i = 0; i < count; i++) {
                int v = TOLD[rest % TOLD.length];
                rest /= TOLD.length;
                boolean value = m.getParameterTypes()[i] == long.class;
                told[i] = value ? (Object) (long) Math.abs(v % 100) : (Object) v;
            }
            long answer = ((Number) m.invoke(x, told)).longValue();
            boolean scored = Set.of("scores", "shoot", "points", "mean", "round", "order").contains(m.getName());
            if (scored ? answer < -APART : answer < LashRing.NONE) {
                codes.add(answer);
            }
            if (m.getName().equals("numbers") || m.getName().equals("write") || m.getName().equals("lists")) {
                x = ready();
            }
        }
    }

    // ---- the tests

    private static void everyTest(String page) {
        Set<String> said = new TreeSet<>();
        Matcher row = Pattern.compile("(?m)^\\| (\\w+Test) \\|").matcher(page);
        while (row.find()) {
            said.add(row.group(1));
        }
        Set<String> there = new TreeSet<>();
        for (String name : List.of(new File("src/test/java").list())) {
            if (name.endsWith("Test.java")) {
                there.add(name.replace(".java", ""));
            } else {
                Check.due("the page names " + name, page.contains("`" + name.replace(".java", "")) ? 1 : 0, 1);
            }
        }
        Check.due("tests there: " + there + ", on the page: " + said, there.equals(said) ? 1 : 0, 1);
    }
}
