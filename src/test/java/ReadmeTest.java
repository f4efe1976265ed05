import java.lang.reflect.Method;
import java.nio.file.Files;
import java.nio.file.Path;
import java.util.regex.Matcher;
import java.util.regex.Pattern;

/** README.md tells how the class is used: its example answers what it says, and it names every call. */
public final class ReadmeTest {
    private static final Due DUE = new Due("readme");
    private static final Pattern EXAMPLE = Pattern.compile("(?m)^x\\.(\\w+)\\(([^)]*)\\); *// (-?\\d+):");

    public static void main(String[] args) throws Exception {
        Path main = Path.of(System.getProperty("twicenoise.source", "src/main/java/TwiceNoise.java")).toAbsolutePath();
        String readme = Files.readString(main.resolve("../../../../README.md").normalize());
        example(readme);
        calls(readme);
        DUE.is("it tells for how many calls an object is used", readme.contains("at most 512 calls") ? 1 : 0, 1);
        DUE.end();
    }

    private static void example(String readme) throws Exception {
        TwiceNoise x = new TwiceNoise();
        Matcher line = EXAMPLE.matcher(readme);
        int found = 0;
        while (line.find()) {
            found++;
            DUE.is(line.group(), call(x, line.group(1), line.group(2).split(", ")), Long.parseLong(line.group(3)));
        }
        DUE.is("every line of the example has its answer", found, readme.lines().filter(l -> l.startsWith("x.")).count());
        DUE.is("there is an example", found > 0 ? 1 : 0, 1);
    }

    private static long call(TwiceNoise x, String name, String[] words) throws Exception {
        Class<?>[] types = new Class<?>[words.length];
        Object[] values = new Object[words.length];
        for (int k = 0; k < words.length; k++) {
            types[k] = int.class;
            values[k] = Integer.parseInt(words[k]);
        }
        return ((Number) TwiceNoise.class.getMethod(name, types).invoke(x, values)).longValue();
    }

    /** Each call stands in a table with as many arguments as it takes. */
    private static void calls(String readme) {
        for (Method m : TwiceNoise.class.getDeclaredMethods()) {
            if (!java.lang.reflect.Modifier.isPublic(m.getModifiers())) {
                continue;
            }
            int takes = m.getParameterCount();
            String arguments = takes == 0 ? "" : "\\w+" + ", \\w+".repeat(takes - 1);
            Matcher told = Pattern.compile("(?m)^\\|.*`" + m.getName() + "\\(" + arguments + "\\)`.*\\|$").matcher(readme);
            DUE.is("it tells what " + m.getName() + " is for", told.find() ? 1 : 0, 1);
        }
    }
}
