/** Promises 1 to 12: a new object, machines, draws, papers, curves. */
public final class CurvesTest {
    private static final Due DUE = new Due("curves");

    public static void main(String[] args) {
        newObject();
        machine();
        draws();
        paper();
        paperIs();
        curve();
        measure();
        make();
        curveIs();
        as();
        pointAndHair();
        DUE.end();
    }

    private static void newObject() {
        TwiceNoise x = new TwiceNoise();
        for (int what = 0; what <= 9; what++) {
            DUE.is("1: count(" + what + ")", x.count(what), 0);
        }
        for (int k = 1; k <= 6; k++) {
            DUE.is("1: told(" + k + ")", x.told(k), 0);
        }
        DUE.is("1: paperIs(0, 0)", x.paperIs(0, 0), Due.BEYOND);
        DUE.is("1: curveIs(0, 0)", x.curveIs(0, 0), Due.BEYOND);
        DUE.is("1: sheets are missing", x.put(0, 0, 0), Due.NONE);
        DUE.is("1: no image", x.restore(), Due.NONE);
    }

    private static void machine() {
        TwiceNoise x = new TwiceNoise();
        for (int m = 0; m < 4; m++) {
            DUE.is("2: STEP at first", x.machine(m, 0, 99), 1);
            DUE.is("2: STEP again", x.machine(m, 0, 1), 99);
            DUE.is("2: NOISE at first", x.machine(m, 1, 50), 0);
            DUE.is("2: NOISE again", x.machine(m, 1, 0), 50);
            DUE.is("2: BOUND at first", x.machine(m, 2, 9999), 0);
            DUE.is("2: BOUND again", x.machine(m, 2, 0), 9999);
        }
        int[][] wrong = {{-1, 0, 1}, {4, 0, 1}, {0, -1, 1}, {0, 3, 1}, {0, 0, 0}, {0, 0, 100}, {0, 1, -1}, {0, 1, 51},
            {0, 2, -1}, {0, 2, 10000}, {0, Integer.MIN_VALUE, 1}, {0, Integer.MAX_VALUE, 1}};
        for (int[] w : wrong) {
            DUE.is("2: wrong", x.machine(w[0], w[1], w[2]), Due.BEYOND);
        }
        DUE.is("2: nothing was changed", x.machine(0, 0, 5), 1);
        DUE.is("2: told", x.told(1), wrong.length);
    }

    private static void draws() {
        TwiceNoise x = new TwiceNoise();
        DUE.is("3: at first", x.draws(-1000001), 1);
        DUE.is("3: as low as an ERROR", x.draws(Integer.MIN_VALUE), -1000001);
        DUE.is("3: the least", x.draws(7), Integer.MIN_VALUE);
        DUE.is("3: that is no ERROR", x.told(1), 0);
        x.paper(0, 1, 1);
        x.measure(0, 3);
        int w = 7;
        for (int k = 0; k < 3; k++) {
            w = w * 1103515245 + 12345;
        }
        DUE.is("3: drawn for each POINT, of no NOISE too", x.draws(0), w);
    }

    private static void paper() {
        TwiceNoise x = new TwiceNoise();
        DUE.is("4: DAY", x.paper(-1, 1, 1), Due.BEYOND);
        DUE.is("4: DAY", x.paper(1000, 1, 1), Due.BEYOND);
        DUE.is("4: NAMES", x.paper(0, 0, 1), Due.BEYOND);
        DUE.is("4: NAMES", x.paper(0, 256, 1), Due.BEYOND);
        DUE.is("4: NAMES", x.paper(0, -1, 1), Due.BEYOND);
        DUE.is("4: WIDTH", x.paper(0, 1, 0), Due.BEYOND);
        DUE.is("4: WIDTH", x.paper(0, 1, 100), Due.BEYOND);
        DUE.is("4: none was made", x.count(0), 0);
        for (int p = 0; p < 12; p++) {
            DUE.is("4: number", x.paper(p * 90, p * 20 + 1, 99 - p), p);
        }
        DUE.is("4: FULL", x.paper(0, 1, 1), Due.FULL);
        DUE.is("4: BEYOND is asked first", x.paper(0, 0, 1), Due.BEYOND);
        DUE.is("4: greatest", x.paperIs(11, 0), 990);
        DUE.is("4: told", x.told(4), 1);
    }

    private static void paperIs() {
        TwiceNoise x = new TwiceNoise();
        x.paper(999, 255, 99);
        x.paper(0, 1, 1);
        x.paper(3, 2, 4);
        x.rests(2, 0);
        x.rests(2, 1);
        x.needs(2, 11);
        x.measure(20, 3);
        x.measure(0, 3);
        x.measure(21, 3);
        int[][] due = {{999, 255, 99, 0, 0, 1}, {0, 1, 1, 0, 0, 0}, {3, 2, 4, 11, 3, 2}};
        for (int p = 0; p < 3; p++) {
            for (int what = 0; what < 6; what++) {
                DUE.is("5: paperIs(" + p + ", " + what + ")", x.paperIs(p, what), due[p][what]);
            }
        }
        DUE.is("5: what", x.paperIs(0, -1), Due.BEYOND);
        DUE.is("5: what", x.paperIs(0, 6), Due.BEYOND);
        DUE.is("5: PAPER", x.paperIs(-1, 0), Due.BEYOND);
        DUE.is("5: PAPER", x.paperIs(3, 0), Due.BEYOND);
    }

    private static void curve() {
        TwiceNoise x = new TwiceNoise();
        x.paper(1, 1, 1);
        DUE.is("6: NONE, the SHEET is missing", x.curve(0, 0, 0, 0, 3), Due.NONE);
        x.sheet(0, 32, 24);
        for (int i = 0; i < 24; i++) {
            x.put(0, i, i * i - 50);
        }
        DUE.is("6: KIND", x.curve(-1, 0, 0, 0, 3), Due.BEYOND);
        DUE.is("6: KIND", x.curve(8, 0, 0, 0, 3), Due.BEYOND);
        DUE.is("6: PAPER", x.curve(0, 10, 0, 0, 3), Due.BEYOND);
        DUE.is("6: place", x.curve(0, -1, 0, 0, 3), Due.BEYOND);
        DUE.is("6: place", x.curve(0, -10, 0, 0, 3), Due.BEYOND);
        DUE.is("6: MACHINE", x.curve(0, 4, 0, 0, 3), Due.BEYOND);
        DUE.is("6: SHEET", x.curve(0, 0, 4, 0, 3), Due.BEYOND);
        DUE.is("6: SHEET", x.curve(0, 0, -1, 0, 3), Due.BEYOND);
        DUE.is("6: n", x.curve(0, 0, 0, 0, 2), Due.BEYOND);
        DUE.is("6: n", x.curve(0, 0, 0, 0, 25), Due.BEYOND);
        DUE.is("6: n ahead of a missing SHEET", x.curve(0, 0, 1, 0, 25), Due.BEYOND);
        DUE.is("6: a missing SHEET ahead of i", x.curve(0, 0, 1, -1, 3), Due.NONE);
        DUE.is("6: i", x.curve(0, 0, 0, -1, 3), Due.BEYOND);
        DUE.is("6: i", x.curve(0, 0, 0, 22, 3), Due.BEYOND);
        DUE.is("6: i", x.curve(0, 0, 0, Integer.MAX_VALUE, 3), Due.BEYOND);
        DUE.is("6: all of it", x.curve(7, 3, 0, 0, 24), 0);
        DUE.is("6: the end of it", x.curve(2, 1, 0, 21, 3), 1);
        DUE.is("6: its POINT", x.point(1, 0), 21 * 21 - 50);
        DUE.is("6: its last POINT", x.point(1, 2), 23 * 23 - 50);
        x.put(0, 1, 100000);
        DUE.is("6: no POINT", x.curve(0, 0, 0, 0, 3), Due.BEYOND);
        x.put(0, 1, 99999);
        x.put(0, 2, -99999);
        DUE.is("6: POINTS", x.curve(0, 0, 0, 0, 3), 2);
        x.put(0, 2, -100000);
        DUE.is("6: no POINT", x.curve(0, 0, 0, 0, 3), Due.BEYOND);
        DUE.is("6: it isn't asked for", x.curve(0, 0, 0, 3, 3), 3);
        DUE.is("6: a SHEET that changes leaves POINTS", x.point(2, 2), -99999);
        for (int c = 4; c < 24; c++) {
            x.curve(0, 0, 0, 3, 3);
        }
        DUE.is("6: FULL", x.curve(0, 0, 0, 3, 3), Due.FULL);
        DUE.is("6: BEYOND ahead of FULL", x.curve(0, 0, 0, 0, 3), Due.BEYOND);
        DUE.is("6: NONE ahead of FULL", x.curve(0, 0, 1, 0, 3), Due.NONE);
    }

    private static void measure() {
        TwiceNoise x = new TwiceNoise();
        x.paper(2, 1, 1);
        x.machine(2, 0, 7);
        x.machine(2, 1, 50);
        x.draws(12345);
        DUE.is("7: number", x.measure(2, 24), 0);
        int w = 12345;
        for (int j = 0; j < 24; j++) {
            w = w * 1103515245 + 12345;
            DUE.is("7: POINT " + j, x.point(0, j), 10 * j + 7 * ((w >>> 16) % 101 - 50));
        }
        DUE.is("7: KIND", x.curveIs(0, 0), 1);
        DUE.is("7: MACHINE", x.curveIs(0, 2), 2);
        DUE.is("7: not made", x.curveIs(0, 4), -1);
        Due.text(x, 0, "9999*9999*(m+1)*(x%2*2-1)+d");
        x.machine(1, 1, 0);
        DUE.is("7: number", x.measure(0, 3), 1);
        DUE.is("7: held below", x.point(1, 0), -99999);
        DUE.is("7: held above", x.point(1, 1), 99999);
        Due.text(x, 0, "1000*m+100*x+d");
        x.measure(1, 3);
        DUE.is("7: LAW of x, m, d", x.point(2, 2), 1202);
        DUE.is("7: PAPER", x.measure(10, 3), Due.BEYOND);
        DUE.is("7: MACHINE", x.measure(4, 3), Due.BEYOND);
        DUE.is("7: place", x.measure(-7, 3), Due.BEYOND);
        DUE.is("7: n", x.measure(0, 2), Due.BEYOND);
        DUE.is("7: n", x.measure(0, 25), Due.BEYOND);
        for (int c = 3; c < 24; c++) {
            x.measure(0, 3);
        }
        x.draws(77);
        DUE.is("7: FULL", x.measure(0, 3), Due.FULL);
        DUE.is("7: nothing is drawn", x.draws(1), 77);
        DUE.is("7: BEYOND ahead of FULL", x.measure(0, 2), Due.BEYOND);
    }

    private static void make() {
        TwiceNoise x = new TwiceNoise();
        x.paper(1, 1, 1);
        x.paper(2, 1, 1);
        Due.curve(x, 4, 3, 10, -11, 12, -13, 99999);
        DUE.is("8: plain", x.make(100, 0, 11, 0, 5), 1);
        DUE.is("8: turned, 2 by 3", x.make(0, 2, 23, 5, 4), 2);
        int[] due = {5 - 6, 5 + 7, 5 - 8, 5 + 8};
        for (int j = 0; j < 4; j++) {
            DUE.is("8: cut toward 0, then turned, then shifted: POINT " + j, x.point(2, j), due[j]);
        }
        DUE.is("8: back", x.make(100, 1, 51, -999, 403), 3);
        DUE.is("8: held", x.point(3, 0), 99999);
        DUE.is("8: back", x.point(3, 1), -13 * 5 - 999);
        DUE.is("8: back", x.point(3, 2), 12 * 5 - 999);
        DUE.is("8: back and turned", x.make(100, 3, 55, 999, 403), 4);
        DUE.is("8: back and turned", x.point(4, 0), -99000);
        x.make(0, 2, 51, 0, 203);
        DUE.is("8: held below", x.point(5, 2), -99999);
        DUE.is("8: KIND", x.curveIs(2, 0), 3);
        DUE.is("8: PAPER", x.curveIs(2, 1), 0);
        DUE.is("8: PAPER", x.curveIs(3, 1), 1);
        DUE.is("8: of its MACHINE", x.curveIs(2, 2), 3);
        DUE.is("8: made of", x.curveIs(2, 4), 0);
        int[][] wrong = {{6, 0, 11, 0, 3}, {200, 0, 11, 0, 3}, {-100, 0, 11, 0, 3}, {-1, 0, 11, 0, 3}, {0, 4, 11, 0, 3},
            {0, -1, 11, 0, 3}, {0, 0, 10, 0, 3}, {0, 0, 16, 0, 3}, {0, 0, 61, 0, 3}, {0, 0, 1, 0, 3}, {0, 0, -11, 0, 3},
            {0, 0, 11, 1000, 3}, {0, 0, 11, -1000, 3}, {0, 0, 11, 0, 2}, {0, 0, 11, 0, 25}, {0, 0, 11, 0, 6},
            {0, 0, 11, 0, 303}, {0, 1, 11, 0, 103}, {0, 1, 11, 0, 503}, {0, 0, 11, 0, 503}, {0, 0, 11, 0, -97},
            {0, 0, 11, 0, Integer.MAX_VALUE}, {Integer.MIN_VALUE, 0, 11, 0, 3}};
        for (int[] w : wrong) {
            DUE.is("8: wrong " + java.util.Arrays.toString(w), x.make(w[0], w[1], w[2], w[3], w[4]), Due.BEYOND);
        }
        DUE.is("8: none was made", x.count(1), 6);
        for (int c = 6; c < 24; c++) {
            x.make(100 + c - 1, 0, 11, 1, 3);
        }
        DUE.is("8: of the one ahead", x.curveIs(23, 4), 22);
        DUE.is("8: FULL", x.make(0, 0, 11, 0, 3), Due.FULL);
        DUE.is("8: BEYOND ahead of FULL", x.make(0, 0, 11, 0, 2), Due.BEYOND);
    }

    private static void curveIs() {
        TwiceNoise x = new TwiceNoise();
        x.paper(1, 1, 1);
        x.paper(1, 1, 1);
        Due.curve(x, 6, 12, 1, 2, 3, 4);
        int[] due = {6, 1, 2, 4, -1};
        for (int what = 0; what < 5; what++) {
            DUE.is("9: curveIs(0, " + what + ")", x.curveIs(0, what), due[what]);
        }
        DUE.is("9: what", x.curveIs(0, -1), Due.BEYOND);
        DUE.is("9: what", x.curveIs(0, 5), Due.BEYOND);
        DUE.is("9: CURVE", x.curveIs(1, 0), Due.BEYOND);
        DUE.is("9: CURVE", x.curveIs(-1, 0), Due.BEYOND);
    }

    private static void as() {
        TwiceNoise x = new TwiceNoise();
        x.paper(1, 1, 1);
        // For each KIND those that it is of, as bits.
        int[] of = {1, 3, 7, 9, 17, 41, 67, 145};
        for (int kind = 0; kind < 8; kind++) {
            Due.curve(x, kind, 0, 1, 2, 3, 4);
            for (int as = 0; as < 8; as++) {
                DUE.is("10: " + kind + " as " + as, x.as(kind, as), (of[kind] >> as & 1) == 1 ? 4 : Due.KIND);
            }
        }
        DUE.is("10: KIND", x.as(0, 8), Due.BEYOND);
        DUE.is("10: KIND", x.as(0, -1), Due.BEYOND);
        DUE.is("10: CURVE", x.as(8, 0), Due.BEYOND);
        DUE.is("10: CURVE", x.as(-1, 0), Due.BEYOND);
        DUE.is("10: told", x.told(5), 64 - 19);
    }

    private static void pointAndHair() {
        TwiceNoise x = new TwiceNoise();
        x.paper(1, 1, 1);
        Due.curve(x, 0, 0, 99999, -99999, 99999, 5);
        DUE.is("11: first", x.point(0, 0), 99999);
        DUE.is("11: second", x.point(0, 1), -99999);
        DUE.is("11: last", x.point(0, 3), 5);
        DUE.is("11: j", x.point(0, 4), Due.BEYOND);
        DUE.is("11: j", x.point(0, -1), Due.BEYOND);
        DUE.is("11: CURVE", x.point(1, 0), Due.BEYOND);
        DUE.is("11: CURVE", x.point(-1, 0), Due.BEYOND);
        DUE.is("12: first", x.hair(0, 1), 4 * 99999);
        DUE.is("12: last", x.hair(0, 2), -99999 + 5 - 2 * 99999);
        DUE.is("12: j", x.hair(0, 0), Due.BEYOND);
        DUE.is("12: j", x.hair(0, 3), Due.BEYOND);
        DUE.is("12: CURVE", x.hair(1, 1), Due.BEYOND);
        DUE.is("12: CURVE", x.hair(-1, 1), Due.BEYOND);
        x.measure(0, 24);
        DUE.is("12: last of 24", x.hair(1, 22), 0);
        DUE.is("11: last of 24", x.point(1, 23), 230);
    }
}
