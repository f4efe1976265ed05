import java.util.function.Supplier;

/** Full: each 'at most' of the document, reached and passed by one, and what is at its greatest then. */
public final class FullTest {
    private static final Edge EDGE = new Edge("full");
    private static final Supplier<TwiceNoise> FULL = Edge::full;
    private static final int ALL = (1 << 24) - 1;

    public static void main(String[] args) {
        papers();
        curves();
        links();
        trials();
        rules();
        tape();
        waiting();
        trace();
        points();
        sheet();
        room();
        greatest();
        calls();
        EDGE.end();
    }

    private static void papers() {
        TwiceNoise x = new TwiceNoise();
        for (int p = 0; p < 12; p++) {
            EDGE.is("Term 1: PAPERS (at most 12)", x.paper(p, 1, 1), p);
        }
        EDGE.is("45: 12 PAPERS", x.count(0), 12);
        EDGE.is("4: FULL", x.paper(1, 1, 1), Due.FULL);
        EDGE.is("45: 12 PAPERS stay", x.count(0), 12);
        EDGE.refuses("4: FULL", FULL, Due.FULL, y -> y.paper(1, 1, 1));
        EDGE.is("5: the last PAPER", x.paperIs(11, 0), 11);
        EDGE.refuses("5: none behind the last", FULL, Due.BEYOND, y -> y.paperIs(12, 0));
        EDGE.is("7: the last PAPER", x.measure(113, 3), 0);
        EDGE.is("8: the last PAPER", x.make(1100, 0, 11, 0, 3), 1);
        EDGE.refuses("7: none behind the last", FULL, Due.BEYOND, y -> y.measure(120, 3));
        EDGE.refuses("8: none behind the last", FULL, Due.BEYOND, y -> y.make(1200, 0, 11, 0, 3));
        for (int p = 0; p < 11; p++) {
            EDGE.is("28: the last PAPER RESTS on all others", x.rests(11, p), 1);
        }
        EDGE.is("5: on all others", x.paperIs(11, 4), 2047);
        x.needs(11, 11);
        EDGE.is("Term 5: NEED 11 of 11", x.fall(0), 0);
        EDGE.is("Term 5: 10 of 11 are too few", x.fall(1), 2049);
        EDGE.is("30: all struck", x.fall(4095), 4095);
        EDGE.refuses("30: none behind the last", FULL, Due.BEYOND, y -> y.fall(4096));
        EDGE.is("27: all PAPERS", x.saw(0, 11), 4095);
        EDGE.is("32: the last PAPER", x.tries(0, 11, 0, false), 1);
        EDGE.is("33: the last PAPER", x.knows(0, 11, 1), 0);
    }

    /** The three acts that make a CURVE reach the limit, each by itself and in turn. */
    private static void curves() {
        Edge.Ask[] acts = {x -> x.curve(0, 0, 0, 0, 3), x -> x.measure(0, 3), x -> x.make(0, 0, 11, 0, 3)};
        for (int act = 0; act < 4; act++) {
            TwiceNoise x = new TwiceNoise();
            x.paper(1, 1, 1);
            x.sheet(0, 8, 3);
            for (int c = 0; c < 24; c++) {
                int turn = act == 3 ? c % 3 : act;
                EDGE.is("Term 1: CURVES (at most 24)", acts[c == 0 ? 0 : turn].of(x), c);
            }
            EDGE.is("45: 24 CURVES", x.count(1), 24);
            for (Edge.Ask other : acts) {
                EDGE.is("6, 7, 8: FULL", other.of(x), Due.FULL);
            }
            EDGE.is("45: 24 CURVES stay", x.count(1), 24);
            EDGE.is("5: how many CURVES it has", x.paperIs(0, 5), 24);
        }
        EDGE.refuses("6: FULL", FULL, Due.FULL, x -> x.curve(0, 0, 0, 0, 3));
        EDGE.refuses("7: FULL (nothing is drawn)", FULL, Due.FULL, x -> x.measure(0, 3));
        EDGE.refuses("8: FULL", FULL, Due.FULL, x -> x.make(0, 0, 11, 0, 3));
        TwiceNoise x = Edge.full();
        x.draws(77);
        x.measure(0, 24);
        EDGE.is("7: FULL (nothing is drawn)", x.draws(1), 77);
        EDGE.is("9: the last CURVE", x.curveIs(23, 3), 3);
        EDGE.refuses("9: none behind the last", FULL, Due.BEYOND, y -> y.curveIs(24, 3));
        EDGE.refuses("36: none behind the last", FULL, Due.BEYOND, y -> y.voice(24, 0, 0));
        EDGE.refuses("34: none behind the last", FULL, Due.BEYOND, y -> y.rule(1, 1 << 24));
        EDGE.is("36: the last CURVE: x + p", x.voice(23, 0, 4), 7);
    }

    private static void links() {
        TwiceNoise x = new TwiceNoise();
        for (int k = 1; k <= 20; k++) {
            EDGE.is("Term 5: LINKS (at most 20)", x.link(0, 1, 61 - k), k);
        }
        EDGE.is("31: FULL", x.link(0, 1, 1), Due.FULL);
        EDGE.is("45: 20 LINKS", x.count(2), 20);
        EDGE.refuses("31: FULL", FULL, Due.FULL, y -> y.link(0, 1, 1));
        x.paper(1, 1, 1);
        x.tries(0, 0, 100, false);
        EDGE.is("33: the last LINK is the least, the one refused isn't there", x.knows(1, 0, 1), 141);
    }

    private static void trials() {
        for (boolean well : new boolean[] {false, true}) {
            TwiceNoise x = new TwiceNoise();
            x.paper(1, 1, 1);
            for (int k = 1; k <= 30; k++) {
                EDGE.is("Term 5: TRIALS, at most 30", x.tries(3, 0, k, well), k);
            }
            EDGE.is("32: FULL", x.tries(3, 0, 0, false), Due.FULL);
            EDGE.is("32: FULL, of well ones too", x.tries(3, 0, 0, true), Due.FULL);
            EDGE.is("45: 30 TRIALS", x.count(3), 30);
            EDGE.is("45: those that failed", x.count(4), well ? 0 : 30);
            EDGE.is("33: the one refused isn't there", x.knows(3, 0, 1), well ? Due.NONE : 1);
            EDGE.is("33: n 30", x.knows(3, 0, 30), well ? Due.NONE : 30);
        }
        EDGE.refuses("32: FULL", FULL, Due.FULL, x -> x.tries(0, 0, 0, false));
        EDGE.refuses("32: FULL", FULL, Due.FULL, x -> x.tries(0, 0, 0, true));
    }

    private static void rules() {
        TwiceNoise x = new TwiceNoise();
        x.paper(1, 1, 1);
        for (int c = 0; c < 8; c++) {
            x.measure(0, 3);
        }
        for (int r = 0; r < 8; r++) {
            EDGE.is("Term 5: RULES (at most 8)", x.rule(99, 1 << r), r);
        }
        EDGE.is("34: FULL", x.rule(1, 255), Due.FULL);
        EDGE.is("45: 8 RULES", x.count(5), 8);
        EDGE.refuses("34: FULL", FULL, Due.FULL, y -> y.rule(1, 1));
        EDGE.is("35: all RULES together", x.rules(255, 8, 1), 255);
        EDGE.is("35: the cost of all", x.rules(255, 8, 0), 792);
        EDGE.is("35: seven, the least bits", x.rules(255, 7, 1), 127);
        EDGE.is("35: the last RULE", x.rules(128, 1, 1), 128);
        EDGE.is("35: more than all show", x.rules(255, 9, 0), Due.NONE);
    }

    private static void tape() {
        for (int n = 1; n <= 8; n++) {
            TwiceNoise x = new TwiceNoise();
            for (int k = 1; k <= 56 / n; k++) {
                EDGE.is("Term 2: bytes, at most 56", x.feed(0x3131313131313131L, n), k * n);
            }
            EDGE.is("13: FULL", x.feed(0x3131313131313131L, n), Due.FULL);
            int left = 56 % n;
            if (left > 0) {
                EDGE.is("13: none of those came; what is left", x.feed(0x3131313131313131L, left), 56);
            }
            EDGE.is("13: FULL by one", x.feed(0x31, 1), Due.FULL);
            EDGE.is("45: 56 bytes", x.count(6), 56);
        }
        EDGE.refuses("13: FULL", FULL, Due.FULL, x -> x.feed(0x31, 1));
        EDGE.refuses("13: FULL", FULL, Due.FULL, x -> x.feed(0x31, 8));
        for (int n = 2; n <= 8; n++) {
            Supplier<TwiceNoise> almost = withBytes(57 - n);
            int many = n;
            EDGE.refuses("13: FULL by one of " + n, almost, Due.FULL, x -> x.feed(0x3131313131313131L, many));
            EDGE.is("13: one fewer just fits", almost.get().feed(0x3131313131313131L, n - 1), 56);
        }
        TwiceNoise x = new TwiceNoise();
        EDGE.is("14: a TEXT of 56 bytes", Due.text(x, 0, "x+" .repeat(27) + "9*"), -66);
        EDGE.is("14: a TEXT of 56 bytes", Due.text(x, 0, "x+" .repeat(27) + "99"), 27);
        EDGE.is("15: all of it counts", x.law(0, 3, 0, 0), 27 * 3 + 99);
        EDGE.is("13: THE TAPE is empty then, and takes 8", x.feed(0, 8), 8);
    }

    private static Supplier<TwiceNoise> withBytes(int many) {
        return () -> {
            TwiceNoise x = new TwiceNoise();
            Due.feed(x, "1".repeat(many));
            return x;
        };
    }

    private static void waiting() {
        TwiceNoise x = new TwiceNoise();
        for (int k = 1; k <= 24; k++) {
            EDGE.is("43: how many", x.tell(k), k);
        }
        EDGE.is("43: FULL: 24 wait", x.tell(0), Due.FULL);
        EDGE.is("45: 24 wait", x.count(7), 24);
        EDGE.refuses("43: FULL", FULL, Due.FULL, y -> y.tell(0));
        x.check(1);
        EDGE.is("44: none do then; one more", x.tell(0), 1);
        TwiceNoise y = new TwiceNoise();
        y.paper(1, 1, 1);
        for (int c = 0; c < 24; c++) {
            Due.curve(y, 0, 0, c, 2 * c * c + 1, 5 - c);
            y.tell(c);
        }
        y.check(1);
        for (int c = 0; c < 24; c++) {
            y.tell(-1);
        }
        EDGE.is("44: 24 numbers for 24 CURVES", y.check(1), 0);
        for (int c = 0; c < 24; c++) {
            y.tell(c < 23 ? -1 : 0);
        }
        EDGE.is("44: the last of 24 isn't", y.check(1), 24);
    }

    /** The longest VOICE has 11 BODIES, so the first 30 are all. */
    private static void trace() {
        int most = 0;
        for (int kind = 0; kind < 8; kind++) {
            for (int act = 0; act < 4; act++) {
                TwiceNoise x = Edge.kinds();
                x.voice(kind, act, 100);
                most = Math.max(most, x.count(8));
                EDGE.is("37: behind the last", x.trace(x.count(8)), Due.NONE);
                EDGE.is("37: the last", x.trace(x.count(8) - 1) > 0 ? 1 : 0, 1);
                EDGE.is("Term 6: the first 30", x.trace(30), Due.NONE);
            }
        }
        EDGE.is("Term 6: the longest of all", most, 11);
    }

    private static void points() {
        TwiceNoise x = Edge.sheeted();
        for (int j = 0; j < 24; j++) {
            x.put(0, j, j * j);
            x.put(1, j, 99999 - j);
        }
        x.curve(0, 0, 0, 0, 24);
        x.curve(0, 0, 1, 0, 24);
        EDGE.is("Term 1: 24 POINTS, the last", x.point(0, 23), 23 * 23);
        EDGE.is("Term 1: 22 HAIRS, the last", x.hair(0, 22), 2);
        EDGE.is("19: all 24 places", x.prints(0, 1, 1), 24);
        EDGE.is("8: all 24 of it, BACK", x.make(0, 1, 11, 0, 2324), 2);
        EDGE.is("16: 22 HAIRS alike", x.same(0, 2, 0), 22);
        EDGE.is("17: BACK from POINT 23 down to 0", x.bent(0, 2, 1, 5), 23);
        EDGE.is("20: all 24 POINTS", x.worked(1, 99999, 0), 24);
    }

    private static void sheet() {
        TwiceNoise x = Edge.sheeted();
        for (int i = 0; i < 24; i++) {
            EDGE.is("Term 7: at most 24 numbers", x.put(0, i, i + 1), 1);
        }
        EDGE.is("39: no number behind the last", x.put(0, 24, 1), Due.BEYOND);
        EDGE.is("40: all 24", x.move(0, 0, 3, 0, 24), 24);
        EDGE.is("40: 25", x.move(0, 0, 3, 0, 25), Due.BEYOND);
        x.curve(0, 0, 3, 0, 24);
        EDGE.is("40: the last came", x.point(0, 23), 24);
    }

    /** What was full has room again behind an IMAGE of less. */
    private static void room() {
        TwiceNoise x = Edge.full();
        EDGE.is("42: the IMAGE has no CURVES", x.restore(), 0);
        EDGE.is("42: room for a PAPER", x.paper(1, 1, 1), 1);
        EDGE.is("42: room for a CURVE", x.measure(0, 3), 0);
        EDGE.is("42: room for a LINK", x.link(0, 1, 1), 1);
        EDGE.is("42: room for a TRIAL", x.tries(0, 0, 1, true), 1);
        EDGE.is("42: room for a RULE", x.rule(1, 1), 0);
        EDGE.is("42: room for a byte", x.feed(1, 1), 1);
        EDGE.is("42: room for a number", x.tell(1), 1);
        TwiceNoise y = Edge.full();
        y.image();
        y.restore();
        EDGE.is("42: a full IMAGE is full", y.paper(1, 1, 1), Due.FULL);
        EDGE.is("42: a full IMAGE is full", y.measure(0, 3), Due.FULL);
        EDGE.is("42: a full IMAGE is full", y.link(0, 1, 1), Due.FULL);
        EDGE.is("42: a full IMAGE is full", y.tries(0, 0, 1, true), Due.FULL);
        EDGE.is("42: a full IMAGE is full", y.rule(1, 1), Due.FULL);
        EDGE.is("42: a full IMAGE is full", y.feed(1, 1), Due.FULL);
        EDGE.is("42: a full IMAGE is full", y.tell(1), Due.FULL);
        EDGE.is("42: how many CURVES there are", y.restore(), 24);
        Supplier<TwiceNoise> again = () -> {
            TwiceNoise z = Edge.full();
            z.image();
            z.check(1);
            z.text(1);
            z.machine(0, 0, 50);
            z.draws(4);
            z.needs(3, 4);
            z.rests(4, 3);
            z.restore();
            return z;
        };
        EDGE.is("42: all is as a full IMAGE has it", Seen.of(again).equals(Seen.of(Edge.then(FULL, TwiceNoise::image))) ? 1 : 0, 1);
    }

    /** 24 CURVES that are alike, each with 24 POINTS. */
    private static void greatest() {
        TwiceNoise x = Edge.sheeted();
        for (int j = 0; j < 24; j++) {
            x.put(0, j, j * j * j);
        }
        for (int c = 0; c < 24; c++) {
            x.curve(0, 0, 0, 0, 24);
        }
        EDGE.is("45: POINTS of all", x.count(9), 576);
        EDGE.is("18: all pairs", x.pairs(5), 24 * 23);
        EDGE.is("24: all of a lesser number", x.could(23, 1), (1 << 23) - 1);
        EDGE.is("25: the first alone", x.sources(1), 1);
        EDGE.is("26: one NAME", x.hands(1), 1);
        Due.text(x, 1, "1");
        x.machine(0, 2, 9999);
        EDGE.is("22: all 24", x.unsigned(), ALL);
        x.machine(0, 2, 0);
        EDGE.is("22: none", x.unsigned(), 0);
        TwiceNoise y = Edge.shown();
        y.restore();
        EDGE.is("35: all 24 CURVES by one RULE", y.rules(ALL, 24, 1), 1);
        TwiceNoise z = new TwiceNoise();
        z.paper(1, 1, 1);
        for (int h = 0; h < 7; h++) {
            z.link(h, h + 1, 60);
        }
        z.tries(0, 0, 999, false);
        EDGE.is("33: the DAY may be above 999", z.knows(7, 0, 1), 999 + 7 * 60);
        EDGE.is("33: one LINK", z.knows(1, 0, 1), 1059);
    }

    /** An object is used for at most 512 calls: the 512th is answered as the first is. */
    private static void calls() {
        TwiceNoise x = new TwiceNoise();
        for (int k = 1; k <= 512; k++) {
            EDGE.is("41: how often that was done", x.image(), k);
        }
        TwiceNoise y = new TwiceNoise();
        for (int k = 1; k < 512; k++) {
            EDGE.is("46: each BEYOND", y.told(7), Due.BEYOND);
        }
        EDGE.is("46: the 512th call", y.told(1), 511);
        TwiceNoise z = Edge.full();
        int made = 12 + 1 + 25 + 24 + 20 + 30 + 8 + 7 + 24;
        for (int k = made; k < 511; k++) {
            z.hands(5);
        }
        EDGE.is("18: the 512th call", z.pairs(5), Edge.full().pairs(5));
    }
}
