import java.util.ArrayList;
import java.util.LinkedHashSet;
import java.util.List;
import java.util.Map;
import java.util.Random;
import java.util.Set;
import java.util.TreeMap;

/**
 * The grammar of TEXTS (Terms, 2), written down as the document has it and followed in all ways at once (Earley's way):
 * a byte is the FAULT, if none of these ways takes it. No way of reading from left to right is built in, as the class
 * and the model each have one.
 */
public final class GrammarTest {
    private static final Due DUE = new Due("grammar");
    private static final int DRAWN = 3000;
    private static final int TEXTS_AN_OBJECT = 50;
    private static final String[] NAMES = {"xmd", "md", "hpd"};
    private static final String SIGNS = "+-*/%<=>&|?";
    private static final String DRAWN_FROM = "0123456789xmdhpd+-*/%<=>&|?:()--((xX ,!\0\u00ff";
    // A digit behind T, S, C, A, P, U tells how many - and ( are open; "o" stands for one more.
    private static final String[] RULES = {
        "T S", "T S ? S : S",
        "S C", "S S & C", "S S | C",
        "C A", "C A < A", "C A = A", "C A > A",
        "A P", "A A + P", "A A - P",
        "P U", "P P * U", "P P / U", "P P % U",
        "U #", "U # #", "U # # #", "U # # # #", "U name", "U - Uo", "U ( To )",
    };
    private static final Map<String, List<String[]>> GRAMMAR = grammar();

    private final List<Set<String>> sets = new ArrayList<>();
    private final String names;

    private GrammarTest(String names) {
        this.names = names;
        sets.add(new LinkedHashSet<>());
        for (int k = 0; k < GRAMMAR.get("T0").size(); k++) {
            sets.get(0).add("T0 " + k + " 0 0");
        }
        complete(0);
    }

    public static void main(String[] args) {
        told();
        drawn(new Random(2));
        DUE.end();
    }

    private static Map<String, List<String[]>> grammar() {
        Map<String, List<String[]>> all = new TreeMap<>();
        for (int open = 0; open <= 5; open++) {
            for (String rule : RULES) {
                if (rule.contains("o") && open == 5) {
                    continue;
                }
                String[] parts = rule.split(" ");
                String[] right = new String[parts.length - 1];
                for (int k = 1; k < parts.length; k++) {
                    String s = parts[k];
                    right[k - 1] = "TSCAPU".indexOf(s.charAt(0)) < 0 ? s : s.charAt(0) + "" + (s.endsWith("o") ? open + 1 : open);
                }
                all.computeIfAbsent(parts[0] + open, n -> new ArrayList<>()).add(right);
            }
        }
        return all;
    }

    /** An item is: what is read, by which of its rules, how many parts of it stand, and where it began. */
    private void complete(int at) {
        List<String> todo = new ArrayList<>(sets.get(at));
        for (int k = 0; k < todo.size(); k++) {
            String[] item = todo.get(k).split(" ");
            String[] right = GRAMMAR.get(item[0]).get(Integer.parseInt(item[1]));
            int dot = Integer.parseInt(item[2]);
            List<String> more = new ArrayList<>();
            if (dot == right.length) {
                for (String waiting : new ArrayList<>(sets.get(Integer.parseInt(item[3])))) {
                    String[] w = waiting.split(" ");
                    String[] wanted = GRAMMAR.get(w[0]).get(Integer.parseInt(w[1]));
                    int before = Integer.parseInt(w[2]);
                    if (before < wanted.length && wanted[before].equals(item[0])) {
                        more.add(w[0] + " " + w[1] + " " + (before + 1) + " " + w[3]);
                    }
                }
            } else if (GRAMMAR.containsKey(right[dot])) {
                for (int r = 0; r < GRAMMAR.get(right[dot]).size(); r++) {
                    more.add(right[dot] + " " + r + " 0 " + at);
                }
            }
            for (String m : more) {
                if (sets.get(at).add(m)) {
                    todo.add(m);
                }
            }
        }
    }

    private boolean fits(String part, char c) {
        return part.equals("#") ? c >= '0' && c <= '9' : part.equals("name") ? names.indexOf(c) >= 0 : part.equals(c + "");
    }

    /** Whether some TEXT goes on with this byte; if so, it is taken. */
    private boolean takes(char c) {
        Set<String> next = new LinkedHashSet<>();
        for (String each : sets.get(sets.size() - 1)) {
            String[] item = each.split(" ");
            String[] right = GRAMMAR.get(item[0]).get(Integer.parseInt(item[1]));
            int dot = Integer.parseInt(item[2]);
            if (dot < right.length && !GRAMMAR.containsKey(right[dot]) && fits(right[dot], c)) {
                next.add(item[0] + " " + item[1] + " " + (dot + 1) + " " + item[3]);
            }
        }
        if (next.isEmpty()) {
            return false;
        }
        sets.add(next);
        complete(sets.size() - 1);
        return true;
    }

    private boolean isWhole() {
        for (int r = 0; r < GRAMMAR.get("T0").size(); r++) {
            if (sets.get(sets.size() - 1).contains("T0 " + r + " " + GRAMMAR.get("T0").get(r).length + " 0")) {
                return true;
            }
        }
        return false;
    }

    private static int due(String text, int use) {
        GrammarTest g = new GrammarTest(NAMES[use]);
        for (int at = 0; at < text.length(); at++) {
            if (!g.takes(text.charAt(at))) {
                return -10 - at;
            }
        }
        return g.isWhole() ? (int) text.chars().filter(c -> SIGNS.indexOf(c) >= 0).count() : -10 - text.length();
    }

    private static void told() {
        TwiceNoise x = new TwiceNoise();
        String[] texts = {"", "x", "1?2", "1?2:3", "1?2:3?4:5", "1?(2?3:4):5", "(1?2:3", "1<2<3", "(1<2)<3", "1<2&3<4", "12345",
            "-----x", "------x", "(((((x)))))", "((((((x", "-(-(-x))", "-(-(--x))", "(-----x", "x(", "()", "x)", "1:2"};
        for (String text : texts) {
            DUE.is("text 0 of " + text, Due.text(x, 0, text), due(text, 0));
        }
    }

    private static void drawn(Random random) {
        TwiceNoise x = null;
        int whole = 0;
        int early = 0;
        for (int k = 0; k < DRAWN; k++) {
            x = k % TEXTS_AN_OBJECT == 0 ? new TwiceNoise() : x;
            int use = random.nextInt(3);
            String text = draw(random, NAMES[use]);
            for (int at = 0; at < text.length(); at += 8) {
                int n = Math.min(8, text.length() - at);
                long word = 0;
                for (int b = n - 1; b >= 0; b--) {
                    word = word << 8 | text.charAt(at + b);
                }
                x.feed(word, n);
            }
            int want = due(text, use);
            whole += want >= 0 ? 1 : 0;
            early += want == -10 - text.length() ? 1 : 0;
            DUE.is("text " + use + " of " + text, x.text(use), want);
        }
        DUE.is("many that were drawn are TEXTS, many end too early, many have a FAULT",
            whole > 400 && early > 400 && DRAWN - whole - early > 400 ? 1 : 0, 1);
    }

    /** Mostly goes on as a TEXT may; at times has one byte that may be wrong. */
    private static String draw(Random random, String names) {
        GrammarTest g = new GrammarTest(names);
        StringBuilder s = new StringBuilder();
        int most = random.nextInt(57);
        int wrongAt = random.nextBoolean() ? random.nextInt(1 + most / 2) : -1;
        for (int tries = 0; tries < 600 && s.length() < most; tries++) {
            char c = DRAWN_FROM.charAt(random.nextInt(DRAWN_FROM.length()));
            boolean taken = s.length() < g.sets.size() && g.takes(c);
            if (taken || s.length() == wrongAt || s.length() >= g.sets.size()) {
                s.append(c);
            }
            if (g.isWhole() && random.nextInt(12) == 0) {
                break;
            }
        }
        return s.toString();
    }
}
