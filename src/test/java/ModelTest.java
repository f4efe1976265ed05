import java.lang.reflect.InvocationTargetException;
import java.lang.reflect.Method;
import java.util.ArrayList;
import java.util.List;
import java.util.Random;
import java.util.TreeMap;

/** Runs of 512 drawn calls on the class and on the model: each answer must be alike, and nothing may be thrown. */
public final class ModelTest {
    private static final int RUNS = 700;
    private static final int CALLS = 512;
    private static final int LOW = -1000000;

    private final Random random;
    private final TwiceNoise real = new TwiceNoise();
    private final Model model = new Model();
    private final boolean wild;
    private int calls = 0;
    private final String[] favourites;
    private static final TreeMap<String, Method> REAL = new TreeMap<>();
    private static final TreeMap<String, Method> MODEL = new TreeMap<>();
    private static final TreeMap<String, TreeMap<String, Integer>> SEEN = new TreeMap<>();

    private ModelTest(long seed) {
        random = new Random(seed);
        wild = seed % 5 == 0;
        // Each run has calls that it makes often, so that each limit is met in some run.
        favourites = new String[] {someName(), someName(), someName()};
    }

    public static void main(String[] args) throws Exception {
        for (Method m : TwiceNoise.class.getDeclaredMethods()) {
            if (java.lang.reflect.Modifier.isPublic(m.getModifiers())) {
                REAL.put(m.getName(), m);
                MODEL.put(m.getName(), Model.class.getDeclaredMethod(m.getName(), m.getParameterTypes()));
            }
        }
        int runs = args.length > 0 ? Integer.parseInt(args[0]) : RUNS;
        int from = args.length > 1 ? Integer.parseInt(args[1]) : 0;
        int wrong = 0;
        for (int seed = from; seed < from + runs && wrong < 5; seed++) {
            String told = new ModelTest(seed).run();
            if (told != null) {
                wrong++;
                System.out.println("seed " + seed + ": " + told);
            }
        }
        if (args.length > 2) {
            SEEN.forEach((name, answers) -> System.out.println(name + " " + answers));
        }
        System.out.println(wrong == 0 ? "the class answers as the model does" : "the class and the model are unlike");
        System.exit(wrong == 0 ? 0 : 1);
    }

    private String run() throws Exception {
        List<String> latest = new ArrayList<>();
        for (int k = 0; calls < CALLS; k++) {
            String name = name(k);
            calls++;
            Object[] args = drawArguments(name);
            String call = name + java.util.Arrays.toString(args);
            latest.add(call);
            long due = due(name, args);
            long got;
            try {
                got = ((Number) REAL.get(name).invoke(real, args)).longValue();
            } catch (InvocationTargetException e) {
                return call + " threw " + e.getCause();
            }
            SEEN.computeIfAbsent(name, n -> new TreeMap<>())
                .merge(due < LOW && due >= LOW - 6 ? "error " + (LOW - due) : due == 0 ? "0" : due == 1 ? "1" : "other", 1, Integer::sum);
            if (got != due) {
                return "call " + k + " " + call + " answered " + got + ", due is " + due + "; ahead: "
                    + latest.subList(Math.max(0, latest.size() - 8), latest.size());
            }
        }
        return null;
    }

    private long due(String name, Object[] args) throws Exception {
        try {
            return ((Number) MODEL.get(name).invoke(model, args)).longValue();
        } catch (InvocationTargetException e) {
            if (!(e.getCause() instanceof Model.Err)) {
                throw e;
            }
            int k = ((Model.Err) e.getCause()).k;
            model.told[k]++;
            return LOW - k;
        }
    }

    private static final String[] EARLY = {"paper", "paper", "machine", "sheet", "put", "put", "curve", "measure", "make",
        "make", "link", "tries", "rule", "rests", "needs", "feed", "text", "draws"};

    private String name(int k) {
        if (k < 120 && random.nextInt(3) > 0) {
            return EARLY[random.nextInt(EARLY.length)];
        }
        if (queued.isEmpty() && random.nextInt(40) == 0) {
            queueText();
        }
        if (!queued.isEmpty()) {
            return "feed";
        }
        if (textDue) {
            textDue = false;
            return "text";
        }
        String name = random.nextInt(4) == 0 ? favourites[random.nextInt(favourites.length)] : someName();
        boolean rare = RARE.contains(name) && random.nextInt(5) > 0;
        return rare ? someName() : name;
    }

    /** What changes or loses much at once is called less often, so that runs get far. */
    private static final List<String> RARE = List.of("restore", "sheet", "text", "feed", "check");

    private String someName() {
        Object[] names = REAL.keySet().toArray();
        return (String) names[random.nextInt(names.length)];
    }

    private String queued = "";
    private boolean textDue = false;
    private int textUse = 0;

    private void queueText() {
        textUse = random.nextInt(3);
        StringBuilder text = new StringBuilder(someT(random.nextInt(5), Model.NAMES[textUse]));
        int slips = random.nextInt(3) == 0 ? 1 + random.nextInt(2) : 0;
        for (int s = 0; s < slips && text.length() > 0; s++) {
            int at = random.nextInt(text.length());
            String all = "0123456789xmdhp+-*/%<=>&|?:()()-- ~\u00ff";
            char c = all.charAt(random.nextInt(all.length()));
            switch (random.nextInt(4)) {
                case 0: text.setCharAt(at, c); break;
                case 1: text.insert(at, c); break;
                case 2: text.deleteCharAt(at); break;
                default: text.setLength(at);
            }
        }
        queued = text.substring(0, Math.min(text.length(), 56));
        textDue = true;
    }

    private String someT(int deep, String names) {
        if (deep > 0 && random.nextInt(4) == 0) {
            return someS(deep - 1, names) + "?" + someS(deep - 1, names) + ":" + someS(deep - 1, names);
        }
        return someS(deep, names);
    }

    private String someS(int deep, String names) {
        StringBuilder s = new StringBuilder(someU(deep, names));
        int more = random.nextInt(4);
        for (int k = 0; k < more; k++) {
            s.append("+-*/%<=>&|+-*".charAt(random.nextInt(13))).append(someU(deep, names));
        }
        return s.toString();
    }

    private String someU(int deep, String names) {
        if (deep > 0 && random.nextInt(3) == 0) {
            return random.nextBoolean() ? "-" + someU(deep - 1, names) : "(" + someT(deep - 1, names) + ")";
        }
        return random.nextInt(5) < 3 ? "" + names.charAt(random.nextInt(names.length()))
            : "" + random.nextInt(new int[] {3, 30, 100, 9999, 20000}[random.nextInt(5)]);
    }

    private static final int[] WILD = {Integer.MIN_VALUE, Integer.MIN_VALUE + 1, -1000000, -256, -101, -100, -10, -1, 0, 1,
        99, 100, 255, 256, 1 << 24, 1 << 30, Integer.MAX_VALUE - 1, Integer.MAX_VALUE};

    private int any() {
        return random.nextBoolean() ? WILD[random.nextInt(WILD.length)] : random.nextInt();
    }

    private int in(int least, int most) {
        int slip = random.nextInt(wild ? 6 : 40);
        if (slip == 0) {
            return any();
        }
        if (slip == 1) {
            return random.nextBoolean() ? least - 1 : most + 1;
        }
        return least + random.nextInt(Math.max(1, most - least + 1));
    }

    private int somePaper() { return in(0, Math.max(0, model.all.papers.size() - 1)); }
    private int someCurve() { return in(0, Math.max(0, model.all.curves.size() - 1)); }
    private int somePlace() { return in(0, 25) == 0 ? any() : 10 * somePaper() + in(0, 3); }
    private int someCurves() { return random.nextInt(10) == 0 ? any() : random.nextInt() & (1 << model.all.curves.size()) - 1; }

    private Object[] drawArguments(String name) {
        switch (name) {
            case "machine": { int what = in(0, 2); return of(in(0, 3), what, in(what == 0 ? 1 : 0, what == 0 ? 4 : what == 1 ? 3 : 40)); }
            case "draws": return of(any());
            case "paper": return of(random.nextInt(3) == 0 ? in(0, 999) : in(5, 8), in(1, random.nextBoolean() ? 255 : 15), in(1, 99));
            case "paperIs": return of(somePaper(), in(0, 5));
            case "curve": return of(in(0, 7), somePlace(), in(0, 3), in(0, 3), in(3, 8));
            case "measure": return of(somePlace(), in(3, random.nextBoolean() ? 24 : 8));
            case "make": return make();
            case "curveIs": return of(someCurve(), in(0, 4));
            case "as": return of(someCurve(), in(0, 7));
            case "point": return of(someCurve(), in(0, 6));
            case "hair": return of(someCurve(), in(1, 4));
            case "feed": return feed();
            case "text": return of(random.nextInt(20) == 0 ? in(0, 2) : textUse);
            case "law": return of(in(0, 2), random.nextBoolean() ? any() : in(0, 40), random.nextBoolean() ? any() : in(0, 40), random.nextBoolean() ? any() : in(0, 40));
            case "same": return of(someCurve(), someCurve(), in(0, 2));
            case "bent": return of(someCurve(), someCurve(), in(1, 5), in(0, 5));
            case "pairs": case "sources": case "hands": return of(in(1, 5));
            case "check": queueNumbers(); return of(in(1, 5));
            case "prints": return of(someCurve(), someCurve(), in(1, random.nextBoolean() ? 20 : 9999));
            case "worked": return of(someCurve(), in(0, random.nextBoolean() ? 20 : 99999), in(0, 2));
            case "sign": return of(someCurve());
            case "honest": { int s = in(1, 50); return of(in(1, 8), s, in(0, Math.max(0, Math.min(50, s))), in(0, 1)); }
            case "could": return of(someCurve(), in(1, 5));
            case "saw": return of(in(0, 7), in(0, random.nextBoolean() ? 10 : 999));
            case "rests": { int p = somePaper(); return of(p, random.nextInt(4) == 0 ? somePaper() : in(0, Math.max(0, Math.min(11, p - 1)))); }
            case "needs": return of(somePaper(), in(0, random.nextInt(4) == 0 ? 11 : 2));
            case "fall": return of(random.nextInt(10) == 0 ? any() : random.nextInt() & (1 << model.all.papers.size()) - 1);
            case "link": return of(in(0, 7), in(0, 7), in(1, 60));
            case "tries": return new Object[] {in(0, 7), in(0, 20) == 0 ? somePaper() : 0, in(0, 999), random.nextInt(4) == 0};
            case "knows": return of(in(0, 7), random.nextInt(4) == 0 ? somePaper() : 0, in(1, random.nextInt(4) == 0 ? 30 : 4));
            case "rule": return of(in(1, random.nextBoolean() ? 99 : 5), someCurves());
            case "rules": return of(someCurves(), in(1, random.nextInt(4) == 0 ? 24 : 4), in(0, 1));
            case "voice": return of(someCurve(), in(0, 3), random.nextBoolean() ? any() : in(-20, 20));
            case "trace": return of(in(0, 10));
            case "sheet": return of(in(0, 3), random.nextInt(12) == 0 ? any() : new int[] {8, 16, 32, 8, 0}[random.nextInt(5)], in(0, 24));
            case "put": return of(in(0, 3), in(0, 10), random.nextInt(5) == 0 ? any() : in(-3, 3));
            case "move": return of(in(0, 3), in(0, 10), in(0, 3), in(0, 10), in(0, 8));
            case "tell": return of(in(-1, 3));
            case "count": return of(in(0, 9));
            case "told": return of(in(1, 6));
            default: return new Object[0];
        }
    }

    /** Now and then the right numbers wait, as far as they go. */
    private void queueNumbers() {
        int many = model.all.curves.size();
        if (random.nextBoolean() || calls + many + 1 > CALLS) {
            return;
        }
        calls += many + 1;
        model.all.waiting.clear();
        real.check(1);
        int f = 1 + random.nextInt(5);
        for (int c = 0; c < many; c++) {
            List<Integer> of = model.origins(c, f);
            int v = random.nextInt(30) == 0 ? random.nextInt(3) : of.isEmpty() ? -1 : of.get(0);
            if (model.tell(v) != real.tell(v)) {
                throw new IllegalStateException("tell");
            }
        }
    }

    private Object[] make() {
        int c = someCurve();
        int by = in(0, 3);
        int size = c >= 0 && c < model.all.curves.size() ? model.all.curves.get(c).points.length : 5;
        int n = in(3, Math.max(3, Math.min(size, random.nextBoolean() ? 5 : 24)));
        int i = in((by & 1) == 1 ? n - 1 : 0, (by & 1) == 1 ? size - 1 : size - n);
        int factors = random.nextInt(3) == 0 ? in(11, 55) : 10 * in(1, 5) + 1;
        return of(100 * somePaper() + c, by, factors, in(-999, 999), 100 * i + n);
    }

    private Object[] feed() {
        if (queued.isEmpty()) {
            return new Object[] {random.nextLong(), in(1, 8)};
        }
        int n = Math.min(queued.length(), 1 + random.nextInt(8));
        long word = n == 8 ? 0 : random.nextLong() << (8 * n);
        for (int k = 0; k < n; k++) {
            word |= (long) queued.charAt(k) << (8 * k);
        }
        queued = queued.substring(n);
        return new Object[] {word, n};
    }

    private static Object[] of(int... numbers) {
        Object[] args = new Object[numbers.length];
        for (int k = 0; k < numbers.length; k++) {
            args[k] = numbers[k];
        }
        return args;
    }
}
