import java.lang.reflect.Constructor;
import java.lang.reflect.Field;
import java.lang.reflect.Method;
import java.lang.reflect.Modifier;
import java.nio.file.Files;
import java.nio.file.Path;
import java.util.Arrays;
import java.util.TreeSet;
import java.util.regex.Matcher;
import java.util.regex.Pattern;

/** The public face, and what the rules of LANGUAGE.md leave out, as far as it can be seen in the words. */
public final class LanguageTest {
    private static final Due DUE = new Due("language");
    private static final String[] FACE = {
        "int machine(int,int,int)", "int draws(int)", "int paper(int,int,int)", "int paperIs(int,int)",
        "int curve(int,int,int,int,int)", "int measure(int,int)", "int make(int,int,int,int,int)", "int curveIs(int,int)",
        "int as(int,int)", "int point(int,int)", "int hair(int,int)", "int feed(long,int)", "int text(int)",
        "int law(int,int,int,int)", "int same(int,int,int)", "int bent(int,int,int,int)", "int pairs(int)",
        "int prints(int,int,int)", "int worked(int,int,int)", "int sign(int)", "int unsigned()",
        "long honest(int,int,int,int)", "int could(int,int)", "int sources(int)", "int hands(int)", "int saw(int,int)",
        "int rests(int,int)", "int needs(int,int)", "int fall(int)", "int link(int,int,int)",
        "int tries(int,int,int,boolean)", "int knows(int,int,int)", "int rule(int,int)", "int rules(int,int,int)",
        "int voice(int,int,int)", "int trace(int)", "int sheet(int,int,int)", "int put(int,int,int)",
        "int move(int,int,int,int,int)", "int image()", "int restore()", "int tell(int)", "int check(int)", "int count(int)",
        "int told(int)",
    };
    private static final String[] RULED_OUT = {"throw", "throws", "try", "catch", "finally", "synchronized", "assert",
        "import", "package", "->", "::", "Exact", "hashCode", "getClass", "System.out", "nanoTime", "Random", "Thread",
        "record", "protected", "volatile", "native", "NaN", "Object", "yield", "var "};

    public static void main(String[] args) throws Exception {
        face();
        inside();
        words();
        room();
        DUE.end();
    }

    private static String told(Method m) {
        StringBuilder s = new StringBuilder(m.getReturnType() + " " + m.getName() + "(");
        for (int k = 0; k < m.getParameterCount(); k++) {
            s.append(k == 0 ? "" : ",").append(m.getParameterTypes()[k]);
        }
        return s.append(")").toString();
    }

    private static void face() {
        Class<?> c = TwiceNoise.class;
        TreeSet<String> open = new TreeSet<>();
        TreeSet<String> openNames = new TreeSet<>();
        for (Method m : c.getDeclaredMethods()) {
            if (Modifier.isPublic(m.getModifiers()) && !Modifier.isStatic(m.getModifiers())) {
                open.add(told(m));
                openNames.add(m.getName());
            }
        }
        DUE.is("the public methods are the document's", open.equals(new TreeSet<>(Arrays.asList(FACE))) ? 1 : 0, 1);
        DUE.is("the class is public and final", c.getModifiers(), Modifier.PUBLIC | Modifier.FINAL);
        Constructor<?>[] made = c.getDeclaredConstructors();
        DUE.is("one constructor", made.length, 1);
        DUE.is("it is public", made[0].getModifiers(), Modifier.PUBLIC);
        DUE.is("it takes nothing", made[0].getParameterCount(), 0);
        for (Class<?> each : allClasses()) {
            for (Method m : each.getDeclaredMethods()) {
                boolean isFace = each == c && Modifier.isPublic(m.getModifiers());
                DUE.is(each.getSimpleName() + "." + m.getName() + " bears no public name", !isFace && openNames.contains(m.getName()) ? 1 : 0, 0);
                DUE.is(m.getName() + " takes seven at most", m.getParameterCount() <= 7 ? 1 : 0, 1);
                DUE.is(m.getName() + " is public or private", each != c || (m.getModifiers() & (Modifier.PUBLIC | Modifier.PRIVATE)) != 0 ? 1 : 0, 1);
            }
        }
    }

    private static Class<?>[] allClasses() {
        Class<?>[] inside = TwiceNoise.class.getDeclaredClasses();
        Class<?>[] all = Arrays.copyOf(inside, inside.length + 1);
        all[inside.length] = TwiceNoise.class;
        return all;
    }

    private static void inside() {
        DUE.is("some twelve classes", allClasses().length <= 12 ? 1 : 0, 1);
        for (Class<?> each : allClasses()) {
            DUE.is(each.getSimpleName() + " is static", each == TwiceNoise.class || Modifier.isStatic(each.getModifiers()) ? 1 : 0, 1);
            int fields = 0;
            for (Field f : each.getDeclaredFields()) {
                boolean isStatic = Modifier.isStatic(f.getModifiers());
                fields += isStatic ? 0 : 1;
                DUE.is(f + " is final, if static", !isStatic || Modifier.isFinal(f.getModifiers()) ? 1 : 0, 1);
                DUE.is(f + " is private, if of the class", each != TwiceNoise.class || Modifier.isPrivate(f.getModifiers()) ? 1 : 0, 1);
            }
            DUE.is(each.getSimpleName() + " has some twenty fields", fields <= 20 ? 1 : 0, 1);
        }
    }

    private static void words() throws Exception {
        String source = Files.readString(Path.of(System.getProperty("twicenoise.source", "src/main/java/TwiceNoise.java")));
        String code = source.replaceAll("(?s)/\\*.*?\\*/", "").replaceAll("//[^\n]*", "");
        for (String word : RULED_OUT) {
            boolean isWord = Character.isLetter(word.charAt(0));
            Matcher m = Pattern.compile(isWord ? "\\b" + Pattern.quote(word) : Pattern.quote(word)).matcher(code);
            DUE.is("'" + word + "' stands in the class", m.find() ? 1 : 0, 0);
        }
        DUE.is("all signs are plain", source.chars().filter(c -> c > 126 || c < 32 && c != '\n').count(), 0);
        int longest = 0;
        int since = 0;
        for (String line : source.split("\n")) {
            since = line.matches(" {4}( {4})?[a-z].*\\{") ? 0 : since + 1;
            longest = line.matches(" {4}( {4})?\\}") ? Math.max(longest, since) : longest;
        }
        DUE.is("methods stay short", longest <= 60 ? 1 : 0, 1);
    }

    /** All calls of a run share one room: after the object and its IMAGE are made, calls make nothing more. */
    private static void room() {
        com.sun.management.ThreadMXBean bean =
            (com.sun.management.ThreadMXBean) java.lang.management.ManagementFactory.getThreadMXBean();
        long me = Thread.currentThread().getId();
        dearCalls();
        long before = bean.getThreadAllocatedBytes(me);
        dearCalls();
        long made = bean.getThreadAllocatedBytes(me) - before;
        DUE.is("a run of " + made + " bytes is small", made < 60000 ? 1 : 0, 1);
    }

    private static void dearCalls() {
        TwiceNoise x = new TwiceNoise();
        for (int p = 0; p < 12; p++) {
            x.paper(p, 255, 1);
        }
        x.feed(0x6D2B782A29782D31L, 8);
        x.text(0);
        for (int c = 0; c < 24; c++) {
            x.measure(c % 12 * 10, 24);
        }
        for (int k = 0; k < 40; k++) {
            x.hands(5);
            x.pairs(5);
            x.image();
            x.restore();
            x.tell(-1);
            x.check(5);
            x.knows(k % 8, 0, 1);
            x.rules(1, 1, 0);
            x.voice(k % 24, k % 4, k);
            x.unsigned();
        }
    }
}
