import java.lang.management.ManagementFactory;
import java.lang.reflect.Constructor;
import java.lang.reflect.Field;
import java.lang.reflect.Method;
import java.lang.reflect.Modifier;
import java.nio.file.Files;
import java.nio.file.Path;
import java.util.Random;
import java.util.Set;
import java.util.TreeSet;
import java.util.regex.Matcher;
import java.util.regex.Pattern;

/** The public face, rules of LANGUAGE.md that can be looked for in the source, calls with any arguments, the room. */
public final class FaceTest {
    private static final String FACE = "int feed(int int int int int)|int butt(int)|int fault(int)|int shooter(int int)|"
        + "int points(int)|int lands(int int int)|int far(int)|int scores(int)|int open(int)|int opens(int)|"
        + "int shoot(int int int)|int waits(int)|int heal()|int wind(int)|int undo(int)|int judge(int int)|"
        + "int perform(int)|int day(int int)|int leads()|int touches(int int)|int mean(int int int)|int bestAim(int)|"
        + "int careful(int)|int edge(int)|int dares(int)|int likeliest(int int)|int leaves(int int)|int greedy()|"
        + "long beats(int int int int)|long round(int int int)|int begins(int int)|int shooters(int int)|"
        + "long odds(int int int int)|int tells(int int)|int winds(int int int)|int attempt(int int int)|int order(int)|"
        + "int expects(int int int)|int rests(int int)|int guards(int)|int numbers(int int int)|long write(int int long)|"
        + "int lists(int int int)|int image(int)|int restore(int)|int count(int)";

    public static void main(String[] args) throws Exception {
        face();
        source(Files.readString(Path.of("src/main/java/LashRing.java")));
        anyArguments();
        dearestText();
        room();
        Check.end("FaceTest");
    }

    private static void face() throws Exception {
        Set<String> met = new TreeSet<>();
        Set<String> names = new TreeSet<>();
        for (Method m : LashRing.class.getDeclaredMethods()) {
            if (Modifier.isPublic(m.getModifiers())) {
                StringBuilder b = new StringBuilder(m.getReturnType() + " " + m.getName() + "(");
                for (Class<?> c : m.getParameterTypes()) {
                    b.append(b.charAt(b.length() - 1) == '(' ? "" : " ").append(c);
                }
                met.add(b.append(")").toString());
                names.add(m.getName());
                Check.due("static " + m, Modifier.isStatic(m.getModifiers()) ? 1 : 0, 0);
            }
        }
        Set<String> face = new TreeSet<>(Set.of(FACE.split("\\|")));
        Check.due("the public methods", met.equals(face) ? 1 : 0, 1);
        Check.due("NONE", LashRing.NONE, -1);
        documentsFace(face);
        for (Method m : LashRing.class.getDeclaredMethods()) {
            if (!Modifier.isPublic(m.getModifiers()) && !m.isSynthetic()) {
                Check.due(m + " is private", Modifier.isPrivate(m.getModifiers()) ? 1 : 0, 1);
                Check.due(m + " bears a public name", names.contains(m.getName()) ? 1 : 0, 0);
            }
        }
        for (Field f : LashRing.class.getDeclaredFields()) {
            boolean own = Modifier.isPrivate(f.getModifiers()) || f.getName().equals("NONE");
            Check.due(f + " is private", own ? 1 : 0, 1);
        }
        Constructor<?>[] made = LashRing.class.getDeclaredConstructors();
        Check.due("one constructor", made.length, 1);
        Check.due("it is public", Modifier.isPublic(made[0].getModifiers()) ? 1 : 0, 1);
        Check.due("a final class", Modifier.isFinal(LashRing.class.getModifiers()) ? 1 : 0, 1);
        Check.due("classes inside", LashRing.class.getDeclaredClasses().length <= 11 ? 1 : 0, 1);
        for (Class<?> c : LashRing.class.getDeclaredClasses()) {
            Check.due(c + " is static", Modifier.isStatic(c.getModifiers()) ? 1 : 0, 1);
            int fields = 0;
            for (Field f : c.getDeclaredFields()) {
                fields += Modifier.isStatic(f.getModifiers()) ? 0 : 1;
                boolean fixed = !Modifier.isStatic(f.getModifiers()) || Modifier.isFinal(f.getModifiers());
                Check.due(f + " is final if static", fixed ? 1 : 0, 1);
            }
            Check.due(c + " has few fields", fields <= 20 ? 1 : 0, 1);
        }
    }

    /** The face that this test knows is the document's. */
    private static void documentsFace(Set<String> face) throws Exception {
        Path doc = Path.of("../shared/DOC.md");
        if (!Files.isReadable(doc)) {
            System.out.println("no document beside the checkout: its face is not looked up");
            return;
        }
        Set<String> told = new TreeSet<>();
        Matcher call = Pattern.compile("(?m)^    public (int|long) (\\w+)\\((.*)\\);$").matcher(Files.readString(doc));
        while (call.find()) {
            told.add(call.group(1) + " " + call.group(2) + "(" + call.group(3).replaceAll(" \\w+(, )?", " ").trim() + ")");
        }
        Check.due("the document's face " + told, told.equals(face) ? 1 : 0, 1);
    }

    private static void source(String text) {
        String code = text.replaceAll("(?s)/\\*.*?\\*/", " ").replaceAll("//[^\n]*", " ").replaceAll("\"[^\"\n]*\"", "\"\"");
        String[] none = {"\\bthrow\\b", "\\bthrows\\b", "\\btry\\b", "\\bcatch\\b", "\\bsynchronized\\b", "\\bassert\\b", "->",
            "::", "Exact\\b", "\\bprotected\\b", "\\bpackage\\b", "\\bObject\\b", "\\bThread\\b", "\\bSystem\\b", "\\bRandom\\b",
            "\\bequals\\b", "\\bhashCode\\b", "\\btoString\\b", "\"\"\\s*\\+", "\\+\\s*\"\"", "\\bvar\\b"};
        for (String word : none) {
            Check.due("in the source: " + word, Pattern.compile(word).matcher(code).find() ? 1 : 0, 0);
        }
        int imports = 0;
        int longest = 0;
        int since = 0;
        for (String line : text.split("\n")) {
            imports += line.startsWith("import ") ? 1 : 0;
            since = line.matches("    (    )?(public|private|static|final|int|long|boolean|void|Butt|Law|[A-Z]\\w*\\().*\\{") ? 0 : since + 1;
            if (line.matches("    (    )?\\}")) {
                longest = Math.max(longest, since);
            }
        }
        Check.due("one import", imports, 1);
        Check.due("java.util.Arrays", text.startsWith("import java.util.Arrays;") ? 1 : 0, 1);
        Check.due("methods are short: " + longest, longest <= 60 ? 1 : 0, 1);
        for (char c : text.toCharArray()) {
            if (c > 127) {
                Check.due("a sign above 127", c, 127);
            }
        }
    }

    private static long any(Random r) {
        int[] near = {-2, -1, 0, 1, 2, 3, 4, 8, 9, 10, 11, 20, 21, 39, 40, 41, 99, 100, 899, 900, 901, 999, 1000,
            Integer.MAX_VALUE, Integer.MIN_VALUE};
        int k = r.nextInt(4);
        return k == 0 ? r.nextLong() : k == 1 ? r.nextInt(5) : near[r.nextInt(near.length)];
    }

    /** Whatever is told, nothing is thrown, and the same calls give the same answers. */
    private static void anyArguments() throws Exception {
        Method[] methods = LashRing.class.getDeclaredMethods();
        for (int run = 0; run < 300; run++) {
            Random r = new Random(run);
            LashRing x = new LashRing();
            LashRing y = new LashRing();
            if (run % 3 > 0) {
                String text = "butt eye 4 6;shooter shake 3;shooter shake 9;shooter shake 1;shooter shake 0;wind 2;"
                    + (run % 3 > 1 ? "strays:lot*age-wind*aim;opens:hurt<3 and not minute=7;" : "");
                Check.tell(x, text);
                Check.tell(y, text);
            }
            for (int i = 0; i < 600; i++) {
                Method m = methods[r.nextInt(methods.length)];
                if (!Modifier.isPublic(m.getModifiers())) {
                    continue;
                }
                Object[] told = new Object[m.getParameterCount()];
                for (int j = 0; j < told.length; j++) {
                    long v = any(r);
                    told[j] = m.getParameterTypes()[j] == int.class ? (Object) (int) v : (Object) v;
                }
                long a = ((Number) m.invoke(x, told)).longValue();
                long b = ((Number) m.invoke(y, told)).longValue();
                Check.due("run " + run + ": " + m.getName(), a, b);
            }
        }
    }

    /** Texts that fill 900 bytes with what costs most still end, and soon. */
    private static void dearestText() {
        StringBuilder t = new StringBuilder("butt eye 4 6;shooter shake 1;shooter shake 2;shooter shake 3;shooter shake 4;strays:aim");
        while (t.length() < 896) {
            t.append("+1");
        }
        t.append(";");
        LashRing x = Check.ring(t.toString());
        for (int i = 0; i < 100; i++) {
            Check.due("leaves", x.leaves(0, 0), x.leaves(0, 0));
            Check.due("round", x.round(3, 4, 0), x.round(3, 4, 0));
        }
        // The deepest stack that a text can ask for: or, and, a left sum, then per if a sum, a term and these again.
        StringBuilder deep = new StringBuilder("butt eye 4 6;opens:");
        for (int i = 0; i < 6; i++) {
            deep.append("1=2 or 1=1 and 0=1-1*if ");
        }
        deep.append("1=2 or 1=1 and 0=1-1*1");
        for (int i = 0; i < 6; i++) {
            deep.append(" then 1 else 2 end");
        }
        LashRing y = Check.ring(deep.append(";").toString());
        Check.due("the deepest one", y.open(0), 1);
    }

    private static long allocated() {
        com.sun.management.ThreadMXBean bean = (com.sun.management.ThreadMXBean) ManagementFactory.getThreadMXBean();
        return bean.getThreadAllocatedBytes(Thread.currentThread().getId());
    }

    /** The dearest run of 512 calls makes no more than some hundred thousand bytes. */
    private static void room() {
        allocated();
        long before = allocated();
        LashRing x = new LashRing();
        long made = allocated() - before;
        Check.due("a new object: " + made, made < 60000 ? 1 : 0, 1);
        Check.tell(x, "butt eye 4 6;shooter shake 3;shooter shake 9;strays:lot*age-wind*aim;opens:hurt<3;");
        x.numbers(0, 2, 8);
        x.beats(0, 1, 3, 0);
        before = allocated();
        for (int i = 0; i < 500; i++) {
            x.round(0, 4, 0);
            x.beats(0, 1, 3, 0);
            x.leaves(0, 0);
            x.order(0);
            x.tells(0, 0);
            x.attempt(0, 0, 0);
            x.day(i, 40);
            x.perform(0);
            x.judge(0, 2);
            x.numbers(0, 2, 8);
            x.image(0);
            x.restore(0);
            x.expects(0, 0, 999);
            x.lists(0, 0, 0);
        }
        made = allocated() - before;
        Check.due("calls make nothing: " + made, made < 50000 ? 1 : 0, 1);
    }
}
