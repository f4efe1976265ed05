import java.util.ArrayList;
import java.util.Arrays;
import java.util.Comparator;
import java.util.List;
import java.util.TreeMap;

/**
 * The document once more, in other ways than the class has them: a stack for the FAULT, splits for what a TEXT comes
 * to, Java's own super for VOICES, trying all for BENDINGS. Errors are thrown; whoever calls counts them.
 */
final class Model {
    static final class Err extends RuntimeException {
        private static final long serialVersionUID = 1L;
        final int k;
        Err(int k) { super("error " + k, null, false, false); this.k = k; }
    }

    static final class Paper {
        int day, names, width, need;
        final List<Integer> on = new ArrayList<>();
        Paper copy() {
            Paper p = new Paper();
            p.day = day; p.names = names; p.width = width; p.need = need; p.on.addAll(on);
            return p;
        }
    }

    static final class Curve {
        int kind, paper, machine, from = -1;
        long[] points;
    }

    static final class All {
        int[][] machines = {{1, 0, 0}, {1, 0, 0}, {1, 0, 0}, {1, 0, 0}};
        int w = 1;
        List<Paper> papers = new ArrayList<>();
        List<Curve> curves = new ArrayList<>();
        List<int[]> links = new ArrayList<>();
        List<int[]> trials = new ArrayList<>();
        List<int[]> rules = new ArrayList<>();
        List<Integer> waiting = new ArrayList<>();
        String tape = "";
        String[] texts = {"10*x", "d%30=7", "1"};
        All copy() {
            All c = new All();
            for (int m = 0; m < 4; m++) c.machines[m] = machines[m].clone();
            c.w = w;
            for (Paper p : papers) c.papers.add(p.copy());
            c.curves.addAll(curves); c.links.addAll(links); c.trials.addAll(trials); c.rules.addAll(rules);
            c.waiting.addAll(waiting);
            c.tape = tape;
            c.texts = texts.clone();
            return c;
        }
    }

    All all = new All();
    All kept;
    int images;
    final int[][] sheets = new int[4][];
    final int[] bits = new int[4];
    final List<Integer> trace = new ArrayList<>();
    final int[] told = new int[7];

    static void beyond(boolean wrong) { if (wrong) throw new Err(1); }
    static void none(boolean wrong) { if (wrong) throw new Err(2); }
    static void state(boolean wrong) { if (wrong) throw new Err(3); }
    static void full(boolean wrong) { if (wrong) throw new Err(4); }
    static boolean in(long v, long a, long b) { return a <= v && v <= b; }
    boolean paperThere(int p) { return in(p, 0, all.papers.size() - 1); }
    boolean curveThere(int c) { return in(c, 0, all.curves.size() - 1); }
    boolean placeThere(int place) {
        return in(Math.floorDiv(place, 10), 0, all.papers.size() - 1) && in(Math.floorMod(place, 10), 0, 3);
    }
    Paper paperOf(Curve c) { return all.papers.get(c.paper); }

    int machine(int machine, int what, int v) {
        beyond(!in(machine, 0, 3));
        beyond(!in(what, 0, 2));
        beyond(what == 0 && !in(v, 1, 99) || what == 1 && !in(v, 0, 50) || what == 2 && !in(v, 0, 9999));
        int was = all.machines[machine][what];
        all.machines[machine][what] = v;
        return was;
    }

    int draws(int w) { int was = all.w; all.w = w; return was; }

    int paper(int day, int names, int width) {
        beyond(!in(day, 0, 999) || !in(names, 1, 255) || !in(width, 1, 99));
        full(all.papers.size() == 12);
        Paper p = new Paper();
        p.day = day; p.names = names; p.width = width;
        all.papers.add(p);
        return all.papers.size() - 1;
    }

    int paperIs(int paper, int what) {
        beyond(!paperThere(paper) || !in(what, 0, 5));
        Paper p = all.papers.get(paper);
        int onBits = 0;
        for (int o : p.on) onBits += 1 << o;
        int curves = (int) all.curves.stream().filter(c -> c.paper == paper).count();
        return new int[] {p.day, p.names, p.width, p.need, onBits, curves}[what];
    }

    int keep(int kind, int paper, int machine, int from, long[] points) {
        full(all.curves.size() == 24);
        Curve c = new Curve();
        c.kind = kind; c.paper = paper; c.machine = machine; c.from = from; c.points = points;
        all.curves.add(c);
        return all.curves.size() - 1;
    }

    static long hold(long v) { return v < -99999 ? -99999 : v > 99999 ? 99999 : v; }

    int curve(int kind, int place, int sheet, int i, int n) {
        beyond(!in(kind, 0, 7) || !placeThere(place) || !in(sheet, 0, 3) || !in(n, 3, 24));
        none(sheets[sheet] == null);
        beyond(!in(i, 0, sheets[sheet].length) || (long) i + n > sheets[sheet].length);
        long[] points = new long[n];
        for (int j = 0; j < n; j++) {
            points[j] = sheets[sheet][i + j];
            beyond(hold(points[j]) != points[j]);
        }
        return keep(kind, place / 10, place % 10, -1, points);
    }

    int measure(int place, int n) {
        beyond(!placeThere(place) || !in(n, 3, 24));
        full(all.curves.size() == 24);
        int[] m = all.machines[place % 10];
        long[] points = new long[n];
        for (int x = 0; x < n; x++) {
            all.w = (int) ((long) all.w * 1103515245L + 12345L);
            long draw = ((all.w & 0xffffffffL) >> 16) % (2 * m[1] + 1);
            points[x] = hold(law(0, x, place % 10, all.papers.get(place / 10).day) + m[0] * (draw - m[1]));
        }
        return keep(1, place / 10, place % 10, -1, points);
    }

    int make(int of, int by, int factors, int shift, int span) {
        int c = Math.floorMod(of, 100), p = Math.floorDiv(of, 100);
        int up = Math.floorDiv(factors, 10), down = Math.floorMod(factors, 10);
        int i = Math.floorDiv(span, 100), n = Math.floorMod(span, 100);
        beyond(!curveThere(c) || !paperThere(p) || !in(by, 0, 3) || !in(up, 1, 5) || !in(down, 1, 5));
        beyond(!in(shift, -999, 999) || !in(n, 3, 24));
        Curve from = all.curves.get(c);
        long[] points = new long[n];
        for (int j = 0; j < n; j++) {
            long place = by % 2 == 1 ? (long) i - j : (long) i + j;
            beyond(!in(place, 0, from.points.length - 1));
            long v = from.points[(int) place] * up;
            v = Long.signum(v) * (Math.abs(v) / down);
            points[j] = hold((by >= 2 ? -v : v) + shift);
        }
        return keep(3, p, from.machine, c, points);
    }

    int curveIs(int curve, int what) {
        beyond(!curveThere(curve) || !in(what, 0, 4));
        Curve c = all.curves.get(curve);
        return new int[] {c.kind, c.paper, c.machine, c.points.length, c.from}[what];
    }

    int as(int curve, int kind) {
        beyond(!curveThere(curve) || !in(kind, 0, 7));
        Class<?> wanted = speaker(kind).getClass();
        if (!wanted.isInstance(speaker(all.curves.get(curve).kind))) throw new Err(5);
        return all.curves.get(curve).points.length;
    }

    int point(int curve, int j) {
        beyond(!curveThere(curve) || !in(j, 0, all.curves.get(curve).points.length - 1));
        return (int) all.curves.get(curve).points[j];
    }

    static List<Long> hairs(Curve c) {
        List<Long> h = new ArrayList<>();
        for (int j = 1; j + 1 < c.points.length; j++) {
            h.add((c.points[j - 1] - c.points[j]) + (c.points[j + 1] - c.points[j]));
        }
        return h;
    }

    int hair(int curve, int j) {
        beyond(!curveThere(curve) || !in(j, 1, all.curves.get(curve).points.length - 2));
        return hairs(all.curves.get(curve)).get(j - 1).intValue();
    }

    int feed(long word, int n) {
        beyond(!in(n, 1, 8));
        full(all.tape.length() + n > 56);
        long left = word;
        for (int k = 0; k < n; k++) {
            all.tape += (char) Math.floorMod(left, 256L);
            left = Math.floorDiv(left, 256L);
        }
        return all.tape.length();
    }

    static final String[] NAMES = {"xmd", "md", "hpd"};

    int text(int use) {
        beyond(!in(use, 0, 2));
        String t = all.tape;
        all.tape = "";
        int fault = fault(t, NAMES[use]);
        if (fault >= 0) return -10 - fault;
        all.texts[use] = t;
        return (int) t.chars().filter(c -> "+-*/%<=>&|?".indexOf(c) >= 0).count();
    }

    /** Goes byte by byte with a stack of what is open, and stops at the first byte that cannot be. */
    static int fault(String t, String names) {
        // Each: stage of ?: (0, 1, 2), a comparison stands (0, 1), minuses ahead of the operand that is due.
        List<int[]> open = new ArrayList<>();
        open.add(new int[3]);
        boolean due = true;
        int digits = 0;
        for (int at = 0; at < t.length(); at++) {
            char c = t.charAt(at);
            int[] top = open.get(open.size() - 1);
            if (due) {
                if (c == '-' || c == '(') {
                    int opened = open.size() - 1;
                    for (int[] o : open) opened += o[2];
                    if (opened == 5) return at;
                    if (c == '-') top[2]++; else open.add(new int[3]);
                } else if (c >= '0' && c <= '9' || names.indexOf(c) >= 0) {
                    digits = c >= '0' && c <= '9' ? 1 : 4;
                    due = false;
                    top[2] = 0;
                } else {
                    return at;
                }
                continue;
            }
            if (c >= '0' && c <= '9') {
                if (digits >= 4) return at;
                digits++;
                continue;
            }
            digits = 4;
            if (c == ')') {
                if (open.size() == 1 || top[0] == 1) return at;
                open.remove(open.size() - 1);
                open.get(open.size() - 1)[2] = 0;
                continue;
            }
            due = true;
            if ("+-*/%".indexOf(c) >= 0) continue;
            if ("<=>".indexOf(c) >= 0) { if (top[1] == 1) return at; top[1] = 1; continue; }
            top[1] = 0;
            if (c == '&' || c == '|') continue;
            if (c == '?' && top[0] == 0 || c == ':' && top[0] == 1) { top[0]++; continue; }
            return at;
        }
        return due || open.size() > 1 || open.get(0)[0] == 1 ? t.length() : -1;
    }

    /** The place of the last of some signs between operands that stands in no brackets, or -1. */
    static int last(String t, String signs) {
        int deep = 0;
        for (int at = t.length() - 1; at > 0; at--) {
            char c = t.charAt(at);
            if (c == ')') deep++;
            if (c == '(') deep--;
            boolean between = Character.isLetterOrDigit(t.charAt(at - 1)) || t.charAt(at - 1) == ')';
            if (deep == 0 && between && signs.indexOf(c) >= 0) return at;
        }
        return -1;
    }

    static int work(String t, TreeMap<Character, Integer> names) {
        int at = last(t, ":");
        if (at >= 0) {
            int q = last(t.substring(0, at), "?");
            return work(t.substring(0, q), names) != 0 ? work(t.substring(q + 1, at), names) : work(t.substring(at + 1), names);
        }
        for (String signs : new String[] {"&|", "<=>", "+-", "*/%"}) {
            at = last(t, signs);
            if (at < 0) continue;
            int l = work(t.substring(0, at), names), r = work(t.substring(at + 1), names);
            switch (t.charAt(at)) {
                case '&': return l != 0 && r != 0 ? 1 : 0;
                case '|': return l != 0 || r != 0 ? 1 : 0;
                case '<': return l < r ? 1 : 0;
                case '=': return l == r ? 1 : 0;
                case '>': return l > r ? 1 : 0;
                case '+': return (int) ((long) l + r);
                case '-': return (int) ((long) l - r);
                case '*': return (int) ((long) l * r);
                case '/': return r == 0 ? 0 : (int) ((long) l / r);
                default: return r == 0 ? 0 : (int) ((long) l % r);
            }
        }
        if (t.charAt(0) == '-') return -work(t.substring(1), names);
        if (t.charAt(0) == '(') return work(t.substring(1, t.length() - 1), names);
        return names.containsKey(t.charAt(0)) ? names.get(t.charAt(0)) : Integer.parseInt(t);
    }

    int law(int use, int a, int b, int c) {
        beyond(!in(use, 0, 2));
        TreeMap<Character, Integer> names = new TreeMap<>();
        int[] values = {a, b, c};
        for (int k = 0; k < NAMES[use].length(); k++) names.put(NAMES[use].charAt(k), values[k]);
        return work(all.texts[use], names);
    }

    void two(int a, int b) { beyond(!curveThere(a) || !curveThere(b) || a == b); }

    int same(int a, int b, int what) {
        two(a, b);
        beyond(!in(what, 0, 2));
        List<Long> ha = hairs(all.curves.get(a)), hb = hairs(all.curves.get(b));
        for (int n = Math.min(ha.size(), hb.size()); n > 0; n--) {
            for (int i = 0; i + n <= ha.size(); i++) {
                for (int j = 0; j + n <= hb.size(); j++) {
                    if (ha.subList(i, i + n).equals(hb.subList(j, j + n))) return new int[] {n, i + 1, j + 1}[what];
                }
            }
        }
        return 0;
    }

    List<int[]> bendings(int a, int b, int f) {
        List<int[]> found = new ArrayList<>();
        long[] pa = all.curves.get(a).points, pb = all.curves.get(b).points;
        for (int i = 0; i < pa.length; i++)
            for (int back = 0; back < 2; back++) {
                long[] part = new long[pb.length];
                boolean there = true;
                for (int j = 0; j < pb.length; j++) {
                    int place = back == 1 ? i - j : i + j;
                    there &= in(place, 0, pa.length - 1);
                    if (there) part[j] = pa[place];
                }
                if (!there || Arrays.stream(part).distinct().count() < 2) continue;
                for (int turned = 0; turned < 2; turned++)
                    for (int down = 1; down <= f; down++)
                        for (int up = 1; up <= f; up++) {
                            boolean fits = true;
                            for (int d = 2; d <= f; d++) fits &= up % d != 0 || down % d != 0;
                            for (int j = 0; j < pb.length; j++) {
                                long of = turned == 1 ? part[0] - part[j] : part[j] - part[0];
                                fits &= down * (pb[j] - pb[0]) == up * of;
                            }
                            if (fits) found.add(new int[] {back, turned, up, down, i});
                        }
            }
        found.sort(Comparator.<int[]>comparingInt(k -> k[0]).thenComparingInt(k -> k[1]).thenComparingInt(k -> k[2])
            .thenComparingInt(k -> k[3]).thenComparingInt(k -> k[4]));
        return found;
    }

    int bent(int a, int b, int f, int what) {
        two(a, b);
        beyond(!in(f, 1, 5) || !in(what, 0, 5));
        List<int[]> found = bendings(a, b, f);
        if (what == 0) return found.size();
        none(found.isEmpty());
        return found.get(0)[what - 1];
    }

    int pairs(int f) {
        beyond(!in(f, 1, 5));
        int many = 0;
        for (int a = 0; a < all.curves.size(); a++)
            for (int b = 0; b < all.curves.size(); b++)
                if (a != b && !bendings(a, b, f).isEmpty()) many++;
        return many;
    }

    int prints(int a, int b, int width) {
        two(a, b);
        beyond(!in(width, 1, 9999));
        long[] pa = all.curves.get(a).points, pb = all.curves.get(b).points;
        int unlike = 0;
        for (int j = 0; j < pa.length && j < pb.length; j++) {
            if (Math.floor(pa[j] / (double) width) != Math.floor(pb[j] / (double) width)) unlike++;
        }
        return unlike;
    }

    int worked(int curve, int w, int what) {
        beyond(!curveThere(curve) || !in(w, 0, 99999) || !in(what, 0, 2));
        Curve c = all.curves.get(curve);
        long[] far = new long[c.points.length];
        for (int j = 0; j < far.length; j++) {
            far[j] = Math.abs(c.points[j] - (long) law(0, j, c.machine, paperOf(c).day));
        }
        if (what == 0) return (int) Arrays.stream(far).filter(d -> d <= w).count();
        if (what == 1) return (int) Math.min(2000000000L, Arrays.stream(far).max().getAsLong());
        return (int) Arrays.stream(far).filter(d -> d % all.machines[c.machine][0] != 0).count();
    }

    int sign(int curve) {
        beyond(!curveThere(curve));
        Curve c = all.curves.get(curve);
        if (law(1, c.machine, paperOf(c).day, 99) == 0) return 0;
        int bound = all.machines[c.machine][2];
        return hairs(c).stream().anyMatch(h -> h > bound || h < -bound) ? 1 : 2;
    }

    int unsigned() {
        int b = 0;
        for (int c = 0; c < all.curves.size(); c++) if (sign(c) == 2) b += 1 << c;
        return b;
    }

    long honest(int n, int s, int w, int part) {
        beyond(!in(n, 1, 8) || !in(s, 1, 50) || !in(w, 0, s) || !in(part, 0, 1));
        java.math.BigInteger good = java.math.BigInteger.valueOf(2 * w + 1).pow(n);
        java.math.BigInteger every = java.math.BigInteger.valueOf(2 * s + 1).pow(n);
        return (part == 0 ? good : every).divide(good.gcd(every)).longValueExact();
    }

    List<Integer> origins(int b, int f) {
        List<Integer> found = new ArrayList<>();
        for (int a = 0; a < all.curves.size(); a++) {
            if (a == b) continue;
            Paper pa = paperOf(all.curves.get(a)), pb = paperOf(all.curves.get(b));
            if (pa.day > pb.day || pa.day == pb.day && a > b) continue;
            if ((pa.names & pb.names) == 0 || bendings(a, b, f).isEmpty()) continue;
            found.add(a);
        }
        return found;
    }

    int could(int curve, int f) {
        beyond(!curveThere(curve) || !in(f, 1, 5));
        return origins(curve, f).stream().mapToInt(a -> 1 << a).sum();
    }

    int sources(int f) {
        beyond(!in(f, 1, 5));
        int b = 0;
        for (int c = 0; c < all.curves.size(); c++) if (could(c, f) == 0) b += 1 << c;
        return b;
    }

    int hands(int f) {
        beyond(!in(f, 1, 5));
        List<List<Integer>> of = new ArrayList<>();
        for (int c = 0; c < all.curves.size(); c++) of.add(origins(c, f));
        for (int many = 0; many <= 8; many++)
            for (int set = 0; set < 256; set++) {
                if (Integer.bitCount(set) != many) continue;
                boolean explained = true;
                for (int c = 0; c < all.curves.size(); c++) {
                    boolean one = of.get(c).isEmpty();
                    for (int a : of.get(c))
                        for (int name = 0; name < 8; name++)
                            one |= (set & paperOf(all.curves.get(c)).names & paperOf(all.curves.get(a)).names & 1 << name) != 0;
                    explained &= one;
                }
                if (explained) return set;
            }
        throw new IllegalStateException();
    }

    int saw(int name, int day) {
        beyond(!in(name, 0, 7) || !in(day, 0, 999));
        int b = 0;
        for (int p = 0; p < all.papers.size(); p++) {
            Paper x = all.papers.get(p);
            if (x.day <= day && (x.names & 1 << name) != 0) b += 1 << p;
        }
        return b;
    }

    int rests(int paper, int on) {
        beyond(!paperThere(paper) || !paperThere(on));
        state(on >= paper);
        if (all.papers.get(paper).on.contains(on)) return 0;
        all.papers.get(paper).on.add(on);
        return 1;
    }

    int needs(int paper, int n) {
        beyond(!paperThere(paper) || !in(n, 0, 11));
        int was = all.papers.get(paper).need;
        all.papers.get(paper).need = n;
        return was;
    }

    boolean stands(int paper, int struck) {
        Paper p = all.papers.get(paper);
        return (struck & 1 << paper) == 0 && p.on.stream().filter(o -> stands(o, struck)).count() >= p.need;
    }

    int fall(int set) {
        for (int k = 0; k < 32; k++) beyond((set & 1 << k) != 0 && k >= all.papers.size());
        int b = 0;
        for (int p = 0; p < all.papers.size(); p++) if (!stands(p, set)) b += 1 << p;
        return b;
    }

    int link(int house, int other, int days) {
        beyond(!in(house, 0, 7) || !in(other, 0, 7) || house == other || !in(days, 1, 60));
        full(all.links.size() == 20);
        all.links.add(new int[] {house, other, days});
        return all.links.size();
    }

    int tries(int house, int paper, int day, boolean well) {
        beyond(!in(house, 0, 7) || !paperThere(paper) || !in(day, 0, 999));
        full(all.trials.size() == 30);
        all.trials.add(new int[] {house, paper, day, well ? 1 : 0});
        return all.trials.size();
    }

    int knows(int house, int paper, int n) {
        beyond(!in(house, 0, 7) || !paperThere(paper) || !in(n, 1, 30));
        long[][] way = new long[8][8];
        for (int i = 0; i < 8; i++) for (int j = 0; j < 8; j++) way[i][j] = i == j ? 0 : 1L << 40;
        for (int[] l : all.links) way[l[0]][l[1]] = Math.min(way[l[0]][l[1]], l[2]);
        for (int k = 0; k < 8; k++)
            for (int i = 0; i < 8; i++)
                for (int j = 0; j < 8; j++) way[i][j] = Math.min(way[i][j], way[i][k] + way[k][j]);
        List<Long> days = new ArrayList<>();
        for (int[] t : all.trials) {
            if (t[1] != paper || t[3] == 1) continue;
            if (t[0] == house) days.add((long) t[2]);
            else if (law(2, t[0], paper, t[2]) != 0 && way[t[0]][house] < 1L << 40) days.add(t[2] + way[t[0]][house]);
        }
        days.sort(null);
        none(days.size() < n);
        return days.get(n - 1).intValue();
    }

    void among(int set) { for (int k = 0; k < 32; k++) beyond((set & 1 << k) != 0 && k >= all.curves.size()); }

    int rule(int cost, int curves) {
        beyond(!in(cost, 1, 99));
        among(curves);
        full(all.rules.size() == 8);
        all.rules.add(new int[] {cost, curves});
        return all.rules.size() - 1;
    }

    int rules(int curves, int n, int what) {
        among(curves);
        beyond(!in(n, 1, 24) || !in(what, 0, 1));
        List<int[]> good = new ArrayList<>();
        for (int set = 0; set < 1 << all.rules.size(); set++) {
            int cost = 0, shown = 0;
            for (int r = 0; r < all.rules.size(); r++) {
                if ((set & 1 << r) == 0) continue;
                cost += all.rules.get(r)[0];
                shown |= all.rules.get(r)[1];
            }
            if (Integer.bitCount(shown & curves) >= n) good.add(new int[] {cost, Integer.bitCount(set), set});
        }
        none(good.isEmpty());
        int[] best = good.stream().min(Comparator.<int[]>comparingInt(g -> g[0]).thenComparingInt(g -> g[1])
            .thenComparingInt(g -> g[2])).get();
        return what == 0 ? best[0] : best[2];
    }

    class Plain {
        int n, p;
        void b(int body) { if (trace.size() < 30) trace.add(body); }
        int shows(int x) { b(10); return x + p; }
        int bars(int x) { b(11); return shows(x) * 2; }
        int leans(int x) { b(12); return bars(x) - n; }
        int tells(int x) { b(13); if (p == n) throw new Err(6); return x / (p - n); }
    }
    class Measured extends Plain {
        @Override int bars(int x) { b(20); return super.bars(x) + 3; }
        @Override int leans(int x) { b(21); return super.leans(x) ^ p; }
    }
    class Smoothed extends Measured {
        @Override int shows(int x) { b(30); return super.shows(x) / 2; }
        @Override int bars(int x) { b(31); return super.bars(x - 1); }
    }
    class Bent extends Plain {
        @Override int shows(int x) { b(40); return 0 - super.shows(x); }
        @Override int tells(int x) { b(41); return super.tells(x) + leans(1); }
    }
    class Worked extends Plain {
        @Override int leans(int x) { b(50); return super.leans(x) * 3; }
    }
    class Swapped extends Bent {
        @Override int shows(int x) { b(60); return super.shows(x + n); }
        @Override int leans(int x) { b(61); return super.leans(x) - shows(2); }
    }
    class Alike extends Measured {
        @Override int leans(int x) { b(70); return super.leans(x) + bars(n); }
    }
    class Lost extends Worked {
        @Override int tells(int x) { b(80); return leans(x) - super.tells(x); }
    }

    Plain speaker(int kind) {
        switch (kind) {
            case 0: return new Plain();
            case 1: return new Measured();
            case 2: return new Smoothed();
            case 3: return new Bent();
            case 4: return new Worked();
            case 5: return new Swapped();
            case 6: return new Alike();
            default: return new Lost();
        }
    }

    int voice(int curve, int act, int x) {
        beyond(!curveThere(curve) || !in(act, 0, 3));
        Plain s = speaker(all.curves.get(curve).kind);
        s.n = curve;
        s.p = all.curves.get(curve).points.length;
        trace.clear();
        return act == 0 ? s.shows(x) : act == 1 ? s.bars(x) : act == 2 ? s.leans(x) : s.tells(x);
    }

    int trace(int i) { none(!in(i, 0, trace.size() - 1)); return trace.get(i); }

    int sheet(int sheet, int b, int n) {
        beyond(!in(sheet, 0, 3) || b != 0 && b != 8 && b != 16 && b != 32);
        if (b == 0) { sheets[sheet] = null; return 1; }
        state(n < 0);
        beyond(n > 24);
        sheets[sheet] = new int[n];
        bits[sheet] = b;
        return 1;
    }

    int put(int sheet, int i, int v) {
        beyond(!in(sheet, 0, 3));
        none(sheets[sheet] == null);
        beyond(!in(i, 0, sheets[sheet].length - 1));
        int over = 32 - bits[sheet];
        sheets[sheet][i] = v << over >> over;
        return 1;
    }

    int move(int sheet, int i, int other, int j, int n) {
        beyond(!in(sheet, 0, 3) || !in(other, 0, 3));
        none(sheets[sheet] == null || sheets[other] == null);
        if (bits[sheet] != bits[other]) throw new Err(5);
        beyond(n < 0 || i < 0 || j < 0 || (long) i + n > sheets[sheet].length || (long) j + n > sheets[other].length);
        int[] were = sheets[sheet].clone();
        for (int k = 0; k < n; k++) sheets[other][j + k] = were[i + k];
        return n;
    }

    int image() { kept = all.copy(); return ++images; }

    int restore() { none(kept == null); all = kept.copy(); return all.curves.size(); }

    int tell(int v) { full(all.waiting.size() == 24); all.waiting.add(v); return all.waiting.size(); }

    int check(int f) {
        List<Integer> were = all.waiting;
        all.waiting = new ArrayList<>();
        beyond(!in(f, 1, 5));
        for (int k = 0; k < were.size(); k++) {
            if (k >= all.curves.size()) return 1 + k;
            List<Integer> of = origins(k, f);
            if (were.get(k) != (of.isEmpty() ? -1 : of.get(0))) return 1 + k;
        }
        return 0;
    }

    int count(int what) {
        beyond(!in(what, 0, 9));
        int failed = (int) all.trials.stream().filter(t -> t[3] == 0).count();
        int points = all.curves.stream().mapToInt(c -> c.points.length).sum();
        return new int[] {all.papers.size(), all.curves.size(), all.links.size(), all.trials.size(), failed,
            all.rules.size(), all.tape.length(), all.waiting.size(), trace.size(), points}[what];
    }

    int told(int k) { beyond(!in(k, 1, 6)); return told[k]; }
}
