import java.util.function.Supplier;

/** Too small, too large: each range of the document, at both its ends and beyond each, call by call. */
public final class RangesTest {
    private static final Edge EDGE = new Edge("ranges");
    private static final Supplier<TwiceNoise> RICH = Edge::rich;

    public static void main(String[] args) {
        machine();
        paper();
        curve();
        measure();
        places();
        make();
        makeOf();
        aboutCurves();
        texts();
        sameNoise();
        laws();
        who();
        resting();
        houses();
        rules();
        voices();
        sheets();
        counted();
        EDGE.end();
    }

    private static void machine() {
        EDGE.range("2: MACHINE 0 .. 3", RICH, 0, 3, (x, v) -> x.machine(v, 0, 1));
        EDGE.range("2: what 0 .. 2", RICH, 0, 2, (x, v) -> x.machine(0, v, 1));
        for (int machine = 0; machine < 4; machine++) {
            int m = machine;
            EDGE.range("Term 1: a STEP (1 .. 99)", RICH, 1, 99, (x, v) -> x.machine(m, 0, v));
            EDGE.range("Term 1: a NOISE (0 .. 50)", RICH, 0, 50, (x, v) -> x.machine(m, 1, v));
            EDGE.range("Term 1: a BOUND (0 .. 9999)", RICH, 0, 9999, (x, v) -> x.machine(m, 2, v));
        }
        int[][] ends = {{1, 99}, {0, 50}, {0, 9999}};
        TwiceNoise x = new TwiceNoise();
        for (int m = 0; m < 4; m++) {
            for (int what = 0; what < 3; what++) {
                EDGE.is("Term 1: STEP 1, NOISE 0, BOUND 0 at first", x.machine(m, what, ends[what][1]), what == 0 ? 1 : 0);
                EDGE.is("2: the greatest is kept", x.machine(m, what, ends[what][0]), ends[what][1]);
                EDGE.is("2: the least is kept", x.machine(m, what, ends[what][0]), ends[what][0]);
            }
        }
        EDGE.any("Term 1: w (any int)", RICH, TwiceNoise::draws);
        EDGE.is("Term 1: w 1 at first", new TwiceNoise().draws(5), 1);
    }

    private static void paper() {
        EDGE.range("Term 1: DAYS are 0 .. 999: paper", RICH, 0, 999, (x, v) -> x.paper(v, 1, 1));
        EDGE.range("Term 1: NAMES of 0 .. 7, as bits, one at least", RICH, 1, 255, (x, v) -> x.paper(1, v, 1));
        EDGE.range("Term 1: a WIDTH (1 .. 99)", RICH, 1, 99, (x, v) -> x.paper(1, 1, v));
        for (int name = 8; name < 32; name++) {
            int bit = 1 << name;
            EDGE.refuses("Term 1: no NAME " + name, RICH, Due.BEYOND, x -> x.paper(1, bit | 1, 1));
        }
        EDGE.range("5: PAPER", RICH, 0, 2, (x, v) -> x.paperIs(v, 0));
        EDGE.range("5: what 0 .. 5", RICH, 0, 5, (x, v) -> x.paperIs(1, v));
        TwiceNoise x = new TwiceNoise();
        x.paper(0, 1, 1);
        x.paper(999, 255, 99);
        int[][] due = {{0, 1, 1}, {999, 255, 99}};
        for (int p = 0; p < 2; p++) {
            for (int what = 0; what < 3; what++) {
                EDGE.is("4: the least and the greatest are kept", x.paperIs(p, what), due[p][what]);
            }
        }
    }

    private static final String PLACES = "0 1 2 3 10 11 12 13 20 21 22 23";

    private static void curve() {
        EDGE.range("Term 1: KINDS 0 .. 7", RICH, 0, 7, (x, v) -> x.curve(v, 0, 2, 0, 3));
        EDGE.only("6: place: 10 times the PAPER, and the MACHINE", RICH, PLACES, (x, v) -> x.curve(0, v, 2, 0, 3));
        Supplier<TwiceNoise> sheeted = Edge::sheeted;
        EDGE.range("Term 7: SHEETS 0 .. 3: curve", sheeted, 0, 3, (x, v) -> x.curve(0, 0, v, 0, 3));
        EDGE.range("Term 1: 3 to 24 POINTS: curve", sheeted, 3, 24, (x, v) -> x.curve(0, 0, 0, 0, v));
        for (int n = 3; n <= 24; n++) {
            int many = n;
            EDGE.range("6: a number doesn't stand there, of " + n, sheeted, 0, 24 - n, (x, v) -> x.curve(0, 0, 0, v, many));
        }
        for (int place = 5; place < 8; place++) {
            pointsAt(place);
        }
        for (int beside : new int[] {4, 8}) {
            EDGE.takes("6: a number that isn't asked for may be no POINT", withNumber(beside, 100000), x -> x.curve(0, 0, 0, 5, 3));
        }
        TwiceNoise x = Edge.sheeted();
        x.put(0, 0, -99999);
        x.put(0, 23, 99999);
        x.curve(7, 3, 0, 0, 24);
        EDGE.is("6: the least POINT is kept", x.point(0, 0), -99999);
        EDGE.is("6: the greatest POINT is kept", x.point(0, 23), 99999);
        EDGE.is("6: the greatest KIND is kept", x.curveIs(0, 0), 7);
        EDGE.is("6: the greatest MACHINE is kept", x.curveIs(0, 2), 3);
        EDGE.is("6: 24 POINTS are kept", x.curveIs(0, 3), 24);
    }

    private static void pointsAt(int place) {
        for (int v : new int[] {-99999, 99999}) {
            EDGE.takes("Term 1: POINTS (-99999 .. 99999): " + v, withNumber(place, v), x -> x.curve(0, 0, 0, 5, 3));
        }
        for (int v : new int[] {Integer.MIN_VALUE, -100000, 100000, Integer.MAX_VALUE}) {
            EDGE.refuses("6: " + v + " is no POINT", withNumber(place, v), Due.BEYOND, x -> x.curve(0, 0, 0, 5, 3));
        }
    }

    private static Supplier<TwiceNoise> withNumber(int place, int v) {
        return Edge.then(Edge::sheeted, x -> x.put(0, place, v));
    }

    private static void measure() {
        EDGE.only("7: place", RICH, PLACES, (x, v) -> x.measure(v, 3));
        EDGE.range("Term 1: 3 to 24 POINTS: measure", RICH, 3, 24, (x, v) -> x.measure(0, v));
        TwiceNoise x = Edge.rich();
        x.measure(0, 24);
        EDGE.is("7: 24 POINTS", x.curveIs(4, 3), 24);
        x.measure(0, 3);
        EDGE.is("7: 3 POINTS", x.curveIs(5, 3), 3);
    }

    /** Each place that there can be: 12 PAPERS, 4 MACHINES. */
    private static void places() {
        for (int way = 0; way < 2; way++) {
            for (int half = 0; half < 2; half++) {
                TwiceNoise x = Edge.sheeted();
                for (int p = 1; p < 12; p++) {
                    x.paper(p, 1, 1);
                }
                for (int c = 0; c < 24; c++) {
                    int p = 6 * half + c / 4;
                    int place = 10 * p + c % 4;
                    EDGE.is("6, 7: a CURVE at place " + place, way == 0 ? x.curve(0, place, 0, 0, 3) : x.measure(place, 3), c);
                    EDGE.is("9: its KIND", x.curveIs(c, 0), way);
                    EDGE.is("9: its PAPER", x.curveIs(c, 1), p);
                    EDGE.is("9: its MACHINE", x.curveIs(c, 2), c % 4);
                    EDGE.is("9: -1: none told", x.curveIs(c, 4), -1);
                }
                for (int p = 0; p < 12; p++) {
                    EDGE.is("5: how many CURVES it has", x.paperIs(p, 5), p / 6 == half ? 4 : 0);
                }
            }
        }
    }

    private static void make() {
        Supplier<TwiceNoise> sizes = Edge::sizes;
        EDGE.only("8: of: the CURVE", RICH, "0 1 2 3 100 101 102 103", (x, v) -> x.make(v, 0, 11, 0, 3));
        EDGE.refuses("8: of: no such PAPER", RICH, Due.BEYOND, x -> x.make(300, 0, 11, 0, 3));
        EDGE.takes("8: of: the last PAPER", RICH, x -> x.make(203, 0, 11, 0, 3));
        EDGE.refuses("8: of: no such CURVE of the last PAPER", RICH, Due.BEYOND, x -> x.make(204, 0, 11, 0, 3));
        EDGE.range("8: by (0 .. 3)", RICH, 0, 3, (x, v) -> x.make(0, v, 11, 0, 203));
        EDGE.only("8: up by down (1 .. 5 each)", RICH,
            "11 12 13 14 15 21 22 23 24 25 31 32 33 34 35 41 42 43 44 45 51 52 53 54 55", (x, v) -> x.make(0, 0, v, 0, 3));
        EDGE.range("8: shift (-999 .. 999)", RICH, -999, 999, (x, v) -> x.make(0, 0, 11, v, 3));
        EDGE.only("8: span: n of 3 POINTS from POINT 0 on", sizes, "3", (x, v) -> x.make(0, 0, 11, 0, v));
        EDGE.only("8: span: n of 6 POINTS from POINT 0 on", sizes, "3 4 5 6 103 104 105", (x, v) -> x.make(2, 0, 11, 0, v));
        EDGE.only("8: span: n of 6 POINTS from POINT 0 down", sizes, "", (x, v) -> x.make(2, 1, 11, 0, v));
        EDGE.only("8: span: n not 3 .. 24", sizes, "3 4 5 6 7 8 9 10 11 12 13 14 15 16 17 18 19 20 21 22 23 24 103 104 105 106"
            + " 107 108 109 110", (x, v) -> x.make(1, 0, 11, 0, v));
        for (int n = 3; n <= 24; n++) {
            int many = n;
            span("8: i, " + n + " POINTS of 24 from it on", 1, 0, many, 0, 24 - n);
            span("8: i, " + n + " POINTS of 24 from it down", 1, 1, many, n - 1, 23);
        }
        span("8: i, 3 POINTS of 6 from it on", 2, 0, 3, 0, 3);
        span("8: i, 3 POINTS of 6 from it down", 2, 3, 3, 2, 5);
        EDGE.refuses("8: 25 POINTS from POINT 23 down", sizes, Due.BEYOND, x -> x.make(1, 1, 11, 0, 2325));
    }

    /** Out of each CURVE from 0 to 22, for each PAPER from 0 to 11; and from each POINT of 24 on or down. */
    private static void makeOf() {
        TwiceNoise x = Edge.sheeted();
        for (int p = 1; p < 12; p++) {
            x.paper(p, 1, 1);
        }
        for (int j = 0; j < 24; j++) {
            x.put(0, j, 1000 + j);
        }
        x.curve(0, 2, 0, 0, 24);
        for (int c = 1; c < 24; c++) {
            int p = (c * 7 + 6) % 12;
            EDGE.is("8: of: 100 times the PAPER, and the CURVE", x.make(100 * p + c - 1, 0, 11, 1, 3), c);
            EDGE.is("8: its KIND is BENT", x.curveIs(c, 0), 3);
            EDGE.is("8: the PAPER", x.curveIs(c, 1), p);
            EDGE.is("8: the MACHINE of that", x.curveIs(c, 2), 2);
            EDGE.is("8: the CURVE of which it was made", x.curveIs(c, 4), c - 1);
            EDGE.is("8: its POINTS", x.point(c, 2), 1002 + c);
        }
        for (int i = 0; i < 24; i++) {
            TwiceNoise y = Edge.sheeted();
            for (int j = 0; j < 24; j++) {
                y.put(0, j, 1000 + j);
            }
            y.curve(0, 0, 0, 0, 24);
            int by = i < 12 ? 0 : 1;
            for (int n = 3; n <= 12; n++) {
                int c = y.make(0, by, 11, 0, 100 * i + n);
                EDGE.is("8: span: n POINTS", y.curveIs(c, 3), n);
                EDGE.is("8: span: from POINT i", y.point(c, 0), 1000 + i);
                EDGE.is("8: span: to the last", y.point(c, n - 1), by == 0 ? 1000 + i + n - 1 : 1000 + i - n + 1);
            }
        }
    }

    private static void span(String sentence, int curve, int by, int n, int least, int most) {
        for (int v : new int[] {least, most}) {
            EDGE.takes(sentence + ": " + v, Edge::sizes, x -> x.make(curve, by, 11, 0, 100 * v + n));
        }
        for (int v : new int[] {-2, least - 1, most + 1, 24, 99, 21000000}) {
            EDGE.refuses(sentence + ": " + v, Edge::sizes, Due.BEYOND, x -> x.make(curve, by, 11, 0, 100 * v + n));
        }
    }

    private static void aboutCurves() {
        Supplier<TwiceNoise> sizes = Edge::sizes;
        EDGE.range("9: CURVE", RICH, 0, 3, (x, v) -> x.curveIs(v, 0));
        EDGE.range("9: what 0 .. 4", RICH, 0, 4, (x, v) -> x.curveIs(1, v));
        EDGE.range("10: CURVE", RICH, 0, 3, (x, v) -> x.as(v, 0));
        EDGE.range("10: KIND", Edge::kinds, 0, 7, (x, v) -> x.as(Math.max(0, Math.min(7, v)), v));
        EDGE.range("11: CURVE", RICH, 0, 3, (x, v) -> x.point(v, 0));
        EDGE.range("12: CURVE", RICH, 0, 3, (x, v) -> x.hair(v, 1));
        int[] many = {3, 24, 6};
        for (int curve = 0; curve < 3; curve++) {
            int c = curve;
            EDGE.range("11: POINT j, of " + many[c], sizes, 0, many[c] - 1, (x, v) -> x.point(c, v));
            EDGE.range("Term 1: HAIR j (1 .. POINTS less 2), of " + many[c], sizes, 1, many[c] - 2, (x, v) -> x.hair(c, v));
        }
    }

    private static void texts() {
        for (long word : new long[] {0, -1, Long.MIN_VALUE, Long.MAX_VALUE}) {
            EDGE.range("13: n (1 .. 8)", RICH, 1, 8, (x, v) -> x.feed(word, v));
        }
        EDGE.range("14: USES 0 .. 2", RICH, 0, 2, TwiceNoise::text);
        EDGE.range("15: USES 0 .. 2", RICH, 0, 2, (x, v) -> x.law(v, 1, 2, 3));
        for (int use = 0; use < 3; use++) {
            int u = use;
            EDGE.any("15: a NAME may be any int", RICH, (x, v) -> x.law(u, v, 1, 1));
            EDGE.any("15: a NAME may be any int", RICH, (x, v) -> x.law(u, 1, v, 1));
            EDGE.any("15: a NAME may be any int", RICH, (x, v) -> x.law(u, 1, 1, v));
        }
        TwiceNoise x = new TwiceNoise();
        Due.text(x, 1, "m*100+d");
        for (int third : new int[] {Integer.MIN_VALUE, -1, 0, 1, Integer.MAX_VALUE}) {
            EDGE.is("15: of BAD the third isn't looked at", x.law(1, 3, 4, third), 304);
        }
    }

    private static void sameNoise() {
        Supplier<TwiceNoise> kinds = Edge::kinds;
        EDGE.range("16: a", RICH, 0, 2, (x, v) -> x.same(v == 3 ? 4 : v, 3, 0));
        EDGE.range("16: b", RICH, 0, 2, (x, v) -> x.same(3, v == 3 ? 4 : v, 0));
        EDGE.range("16: what 0 .. 2", RICH, 0, 2, (x, v) -> x.same(0, 1, v));
        EDGE.range("17: a", RICH, 0, 2, (x, v) -> x.bent(v == 3 ? 4 : v, 3, 5, 0));
        EDGE.range("17: b", RICH, 0, 2, (x, v) -> x.bent(3, v == 3 ? 4 : v, 5, 0));
        EDGE.range("17: what 0 .. 5", kinds, 0, 5, (x, v) -> x.bent(0, 1, 5, v));
        EDGE.range("17: what 0 .. 5, of no BENDING", RICH, 0, 0, (x, v) -> x.bent(3, 0, 5, v <= 0 ? v : v + 5));
        EDGE.range("19: a", RICH, 0, 2, (x, v) -> x.prints(v == 3 ? 4 : v, 3, 1));
        EDGE.range("19: b", RICH, 0, 2, (x, v) -> x.prints(3, v == 3 ? 4 : v, 1));
        EDGE.range("19: a width (1 .. 9999)", RICH, 1, 9999, (x, v) -> x.prints(0, 1, v));
        for (int c = 0; c < 4; c++) {
            int a = c;
            EDGE.refuses("16: also if a is b", RICH, Due.BEYOND, x -> x.same(a, a, 0));
            EDGE.refuses("17: also if a is b", RICH, Due.BEYOND, x -> x.bent(a, a, 1, 0));
            EDGE.refuses("19: also if a is b", RICH, Due.BEYOND, x -> x.prints(a, a, 1));
        }
        EDGE.range("Term 3: FACTOR f (1 .. 5): bent", kinds, 1, 5, (x, v) -> x.bent(0, 1, v, 1));
        EDGE.range("Term 3: FACTOR f (1 .. 5): pairs", kinds, 1, 5, TwiceNoise::pairs);
        EDGE.range("Term 3: FACTOR f (1 .. 5): could", kinds, 1, 5, (x, v) -> x.could(1, v));
        EDGE.range("Term 3: FACTOR f (1 .. 5): sources", kinds, 1, 5, TwiceNoise::sources);
        EDGE.range("Term 3: FACTOR f (1 .. 5): hands", kinds, 1, 5, TwiceNoise::hands);
        EDGE.range("Term 3: FACTOR f (1 .. 5): check, where none wait", kinds, 1, 5, TwiceNoise::check);
    }

    private static void laws() {
        EDGE.range("20: CURVE", RICH, 0, 3, (x, v) -> x.worked(v, 0, 0));
        EDGE.range("20: what 0 .. 2", RICH, 0, 2, (x, v) -> x.worked(0, 0, v));
        for (int what = 0; what < 3; what++) {
            int asked = what;
            EDGE.range("20: w 0 .. 99999, for each what: " + what, RICH, 0, 99999, (x, v) -> x.worked(0, v, asked));
        }
        EDGE.range("21: CURVE", RICH, 0, 3, TwiceNoise::sign);
        EDGE.range("Term 4: n POINTS (1 .. 8)", RICH, 1, 8, (x, v) -> x.honest(v, 50, 50, 0));
        EDGE.range("Term 4: s 1 .. 50", RICH, 1, 50, (x, v) -> x.honest(1, v, 0, 0));
        for (int s = 1; s <= 50; s++) {
            int most = s;
            EDGE.range("Term 4: w STEPS (0 .. s), s " + s, RICH, 0, s, (x, v) -> x.honest(1, most, v, 0));
        }
        EDGE.range("23: part 0, 1", RICH, 0, 1, (x, v) -> x.honest(1, 1, 1, v));
        EDGE.is("Term 4: the least of all", new TwiceNoise().honest(8, 50, 0, 0), 1);
        EDGE.is("Term 4: the least of all", new TwiceNoise().honest(8, 50, 0, 1), 10828567056280801L);
        EDGE.is("Term 4: w may be s: surely", new TwiceNoise().honest(8, 1, 1, 1), 1);
    }

    private static void who() {
        EDGE.range("24: CURVE", RICH, 0, 3, (x, v) -> x.could(v, 5));
        EDGE.range("27: a NAME (of 0 .. 7)", RICH, 0, 7, (x, v) -> x.saw(v, 999));
        EDGE.range("Term 1: DAYS are 0 .. 999: saw", RICH, 0, 999, (x, v) -> x.saw(0, v));
    }

    private static void resting() {
        EDGE.range("28: PAPER", RICH, 1, 2, (x, v) -> x.rests(v == 0 ? -1 : v, 0));
        EDGE.range("28: the other one", RICH, 0, 1, (x, v) -> x.rests(2, v == 2 ? 3 : v));
        EDGE.range("29: PAPER", RICH, 0, 2, (x, v) -> x.needs(v, 1));
        EDGE.range("Term 5: its NEED (0 .. 11)", RICH, 0, 11, (x, v) -> x.needs(2, v));
        EDGE.range("30: bits of no PAPERS", RICH, 0, 7, TwiceNoise::fall);
        for (int bit = 3; bit < 32; bit++) {
            int set = 1 << bit;
            EDGE.refuses("30: bit " + bit + " is of no PAPER", RICH, Due.BEYOND, x -> x.fall(set));
            EDGE.refuses("30: bit " + bit + " is of no PAPER", RICH, Due.BEYOND, x -> x.fall(set | 5));
        }
        TwiceNoise x = Edge.rich();
        x.needs(2, 11);
        EDGE.is("29: the greatest is kept", x.needs(2, 0), 11);
        EDGE.is("29: the least is kept", x.needs(2, 5), 0);
    }

    private static void houses() {
        Supplier<TwiceNoise> heard = Edge::heard;
        EDGE.range("Term 5: HOUSES 0 .. 7: link", RICH, 0, 7, (x, v) -> x.link(v, v == 3 ? 4 : 3, 1));
        EDGE.range("Term 5: HOUSES 0 .. 7: link to", RICH, 0, 7, (x, v) -> x.link(v == 3 ? 4 : 3, v, 1));
        for (int house = 0; house < 8; house++) {
            int h = house;
            EDGE.refuses("31: both alike", RICH, Due.BEYOND, x -> x.link(h, h, 1));
        }
        EDGE.range("Term 5: so many DAYS (1 .. 60)", RICH, 1, 60, (x, v) -> x.link(0, 1, v));
        for (boolean well : new boolean[] {false, true}) {
            EDGE.range("Term 5: HOUSES 0 .. 7: tries", RICH, 0, 7, (x, v) -> x.tries(v, 0, 1, well));
            EDGE.range("32: PAPER", RICH, 0, 2, (x, v) -> x.tries(0, v, 1, well));
            EDGE.range("Term 1: DAYS are 0 .. 999: tries", RICH, 0, 999, (x, v) -> x.tries(0, 0, v, well));
        }
        EDGE.range("Term 5: HOUSES 0 .. 7: knows", heard, 0, 7, (x, v) -> x.knows(v, 0, 30));
        EDGE.range("33: PAPER", heard, 0, 0, (x, v) -> x.knows(0, v <= 0 ? v : v == 1 ? 2 : v, 1));
        EDGE.range("33: n (1 .. 30)", heard, 1, 30, (x, v) -> x.knows(7, 0, v));
        TwiceNoise x = Edge.heard();
        EDGE.is("33: the first of 30", x.knows(7, 0, 1), 107);
        EDGE.is("33: the last of 30", x.knows(7, 0, 30), 136);
    }

    private static void rules() {
        Supplier<TwiceNoise> shown = Edge::shown;
        EDGE.range("Term 5: RULES cost so much (1 .. 99)", RICH, 1, 99, (x, v) -> x.rule(v, 1));
        EDGE.range("34: bits of no CURVES (that there are now)", RICH, 0, 15, (x, v) -> x.rule(1, v));
        EDGE.range("35: CURVES (bits)", RICH, 1, 15, (x, v) -> x.rules(v == 0 ? -1 : v, 1, 0));
        for (int bit = 4; bit < 32; bit++) {
            int set = 1 << bit;
            EDGE.refuses("34: bit " + bit + " is of no CURVE", RICH, Due.BEYOND, x -> x.rule(1, set | 9));
            EDGE.refuses("35: bit " + bit + " is of no CURVE", RICH, Due.BEYOND, x -> x.rules(set | 9, 1, 0));
        }
        EDGE.range("34: bits of 24 CURVES", shown, 0, (1 << 24) - 1, (x, v) -> x.rule(1, v));
        EDGE.range("35: bits of 24 CURVES", shown, 1, (1 << 24) - 1, (x, v) -> x.rules(v == 0 ? -1 : v, 1, 0));
        EDGE.range("35: n (1 .. 24)", shown, 1, 24, (x, v) -> x.rules((1 << 24) - 1, v, 0));
        EDGE.range("35: what 0, 1", shown, 0, 1, (x, v) -> x.rules(1, 1, v));
        TwiceNoise x = Edge.rich();
        x.rule(1, 1);
        EDGE.is("34: the least cost is kept", x.rules(1, 1, 0), 1);
        x.measure(0, 3);
        x.rule(99, 16);
        EDGE.is("34: the greatest cost is kept", x.rules(16, 1, 0), 99);
    }

    private static void voices() {
        EDGE.range("36: CURVE", RICH, 0, 3, (x, v) -> x.voice(v, 0, 1));
        EDGE.range("36: 0 shows .. 3 tells", RICH, 0, 3, (x, v) -> x.voice(0, v, 1));
        for (int act = 0; act < 4; act++) {
            int asked = act;
            EDGE.any("Term 6: x may be any int", Edge::kinds, (x, v) -> x.voice(3, asked, v));
        }
        Supplier<TwiceNoise> spoken = Edge.then(Edge::kinds, x -> x.voice(5, 3, 8));
        EDGE.range("37: THE TRACE's i-th", spoken, 0, 10, Due.NONE, TwiceNoise::trace);
    }

    private static void sheets() {
        Supplier<TwiceNoise> sheeted = Edge::sheeted;
        EDGE.range("Term 7: SHEETS 0 .. 3: sheet", RICH, 0, 3, (x, v) -> x.sheet(v, 8, 3));
        EDGE.only("Term 7: 8, 16, 32 bits (0: it is missing)", RICH, "0 8 16 32", (x, v) -> x.sheet(1, v, 3));
        for (int bits : new int[] {8, 16, 32}) {
            EDGE.takes("Term 7: at most 24 numbers", RICH, x -> x.sheet(1, bits, 0));
            EDGE.takes("Term 7: at most 24 numbers", RICH, x -> x.sheet(1, bits, 24));
            EDGE.refuses("Term 7: at most 24 numbers", RICH, Due.BEYOND, x -> x.sheet(1, bits, 25));
            EDGE.refuses("Term 7: at most 24 numbers", RICH, Due.BEYOND, x -> x.sheet(1, bits, Integer.MAX_VALUE));
            EDGE.refuses("38: n is below 0", RICH, Due.STATE, x -> x.sheet(1, bits, -1));
            EDGE.refuses("38: n is below 0", RICH, Due.STATE, x -> x.sheet(1, bits, Integer.MIN_VALUE));
        }
        EDGE.any("38: 0: it is missing, n doesn't matter", RICH, (x, v) -> x.sheet(1, 0, v));
        EDGE.range("39: SHEETS 0 .. 3: put", sheeted, 0, 3, (x, v) -> x.put(v, 0, 5));
        EDGE.range("39: no such number, of 24", sheeted, 0, 23, (x, v) -> x.put(0, v, 5));
        EDGE.range("39: no such number, of 5", RICH, 0, 4, (x, v) -> x.put(1, v, 5));
        EDGE.any("39: v may be any int", RICH, (x, v) -> x.put(1, 0, v));
        EDGE.range("40: SHEETS 0 .. 3: move", sheeted, 0, 3, (x, v) -> x.move(v, 0, 1, 0, 3));
        EDGE.range("40: SHEETS 0 .. 3: move to", sheeted, 0, 3, (x, v) -> x.move(1, 0, v, 0, 3));
        for (int n = 0; n <= 24; n++) {
            int many = n;
            EDGE.range("40: i, of " + n, sheeted, 0, 24 - n, (x, v) -> x.move(0, v, 1, 0, many));
            EDGE.range("40: j, of " + n, sheeted, 0, 24 - n, (x, v) -> x.move(0, 0, 1, v, many));
            EDGE.range("40: n, from number " + n + " on", sheeted, 0, 24 - n, (x, v) -> x.move(0, many, 1, 0, v));
            EDGE.range("40: n, to number " + n + " on", sheeted, 0, 24 - n, (x, v) -> x.move(0, 0, 1, many, v));
        }
        Supplier<TwiceNoise> uneven = Edge.then(sheeted, x -> x.sheet(2, 32, 5));
        EDGE.range("40: they don't stand where they come to", uneven, 0, 5, (x, v) -> x.move(0, 0, 2, 0, v));
        EDGE.range("40: they don't stand where they are from", uneven, 0, 5, (x, v) -> x.move(2, 0, 0, 0, v));
    }

    private static void counted() {
        EDGE.any("43: any int may wait", RICH, TwiceNoise::tell);
        EDGE.range("45: what 0 .. 9", RICH, 0, 9, TwiceNoise::count);
        EDGE.range("46: k 1 .. 6", RICH, 1, 6, TwiceNoise::told);
    }
}
