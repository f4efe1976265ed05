/** Promises 36 to 46: voices, sheets, images, what is told. */
public final class VoicesTest {
    private static final Due DUE = new Due("voices");

    public static void main(String[] args) {
        voice();
        parted();
        traceStays();
        sheet();
        put();
        move();
        image();
        imageKeepsAll();
        tellAndCheck();
        count();
        told();
        DUE.end();
    }

    private static TwiceNoise withKinds() {
        TwiceNoise x = new TwiceNoise();
        x.paper(1, 1, 1);
        for (int kind = 0; kind < 8; kind++) {
            Due.curve(x, kind, 0, 1, 2, 3, 4, 5, 6, 7, 8, 9);
        }
        return x;
    }

    private static void speaks(TwiceNoise x, int curve, int act, int v, int due, int... bodies) {
        String call = "voice(" + curve + ", " + act + ", " + v + ")";
        DUE.is("36: " + call, x.voice(curve, act, v), due);
        DUE.is("37: how many BODIES of " + call, x.count(8), bodies.length);
        for (int i = 0; i < bodies.length; i++) {
            DUE.is("37: BODY " + i + " of " + call, x.trace(i), bodies[i]);
        }
        DUE.is("37: behind the last of " + call, x.trace(bodies.length), Due.NONE);
    }

    /** CURVES 0 .. 7 are of KINDS 0 .. 7, with 9 POINTS each; x is 5. */
    private static void voice() {
        TwiceNoise x = withKinds();
        speaks(x, 0, 0, 5, 14, 10);
        speaks(x, 0, 1, 5, 28, 11, 10);
        speaks(x, 0, 2, 5, 28, 12, 11, 10);
        speaks(x, 0, 3, -17, -1, 13);
        speaks(x, 1, 0, 5, 14, 10);
        speaks(x, 1, 1, 5, 31, 20, 11, 10);
        speaks(x, 1, 2, 5, (31 - 1) ^ 9, 21, 12, 20, 11, 10);
        speaks(x, 1, 3, 17, 2, 13);
        speaks(x, 2, 0, 5, 7, 30, 10);
        speaks(x, 2, 0, -16, -3, 30, 10);
        speaks(x, 2, 1, 5, 6 * 2 + 3, 31, 20, 11, 30, 10);
        speaks(x, 2, 2, 5, (15 - 2) ^ 9, 21, 12, 31, 20, 11, 30, 10);
        speaks(x, 3, 0, 5, -14, 40, 10);
        speaks(x, 3, 1, 5, -28, 11, 40, 10);
        speaks(x, 3, 3, 60, 10 + (-20 - 3), 41, 13, 12, 11, 40, 10);
        speaks(x, 4, 2, 5, (28 - 4) * 3, 50, 12, 11, 10);
        speaks(x, 5, 0, 5, -19, 60, 40, 10);
        speaks(x, 5, 2, 5, (-38 - 5) + 16, 61, 12, 11, 60, 40, 10, 60, 40, 10);
        speaks(x, 5, 3, 8, 2 + (-30 - 5) + 16, 41, 13, 61, 12, 11, 60, 40, 10, 60, 40, 10);
        speaks(x, 6, 2, 5, ((31 - 6) ^ 9) + 33, 70, 21, 12, 20, 11, 10, 20, 11, 10);
        speaks(x, 7, 2, 5, (28 - 7) * 3, 50, 12, 11, 10);
        speaks(x, 7, 3, 5, 63 - 2, 80, 50, 12, 11, 10, 13);
        speaks(x, 0, 0, Integer.MAX_VALUE, Integer.MIN_VALUE + 8, 10);
        speaks(x, 0, 1, -9 - 500000, -1000000, 11, 10);
        speaks(x, 0, 0, -1000010, -1000001, 10);
        DUE.is("36: that is no ERROR", x.told(1), 0);
        DUE.is("36: CURVE", x.voice(8, 0, 0), Due.BEYOND);
        DUE.is("36: CURVE", x.voice(-1, 0, 0), Due.BEYOND);
        DUE.is("36: act", x.voice(0, 4, 0), Due.BEYOND);
        DUE.is("36: act", x.voice(0, -1, 0), Due.BEYOND);
    }

    private static void parted() {
        TwiceNoise x = new TwiceNoise();
        x.paper(1, 1, 1);
        for (int c = 0; c < 3; c++) {
            x.measure(0, 3);
        }
        Due.curve(x, 0, 0, 1, 2, 3); // 3
        Due.curve(x, 5, 0, 1, 2, 3, 4); // 4
        Due.curve(x, 7, 0, 1, 2, 3, 4, 5); // 5
        Due.curve(x, 0, 0, 1, 2, 3, 4, 5); // 6
        speaks(x, 3, 3, 7, (int) Due.PARTED, 13);
        speaks(x, 4, 3, 7, (int) Due.PARTED, 41, 13);
        speaks(x, 5, 3, 7, (int) Due.PARTED, 80, 50, 12, 11, 10, 13);
        speaks(x, 5, 2, 7, (24 - 5) * 3, 50, 12, 11, 10);
        speaks(x, 6, 3, Integer.MIN_VALUE, Integer.MIN_VALUE, 13);
        DUE.is("36: told", x.told(6), 3);
    }

    private static void traceStays() {
        TwiceNoise x = withKinds();
        DUE.is("37: none at first", x.trace(0), Due.NONE);
        x.voice(0, 1, 1);
        x.voice(0, 4, 1);
        DUE.is("37: BEYOND leaves it", x.count(8), 2);
        DUE.is("37: BEYOND leaves it", x.trace(1), 10);
        DUE.is("37: below", x.trace(-1), Due.NONE);
        DUE.is("37: far", x.trace(Integer.MAX_VALUE), Due.NONE);
        DUE.is("37: far", x.trace(30), Due.NONE);
    }

    private static void sheet() {
        TwiceNoise x = new TwiceNoise();
        DUE.is("38: 24", x.sheet(3, 32, 24), 1);
        DUE.is("38: its last", x.put(3, 23, 1), 1);
        DUE.is("38: none behind", x.put(3, 24, 1), Due.BEYOND);
        DUE.is("38: 0 numbers", x.sheet(0, 8, 0), 1);
        DUE.is("38: not missing", x.put(0, 0, 1), Due.BEYOND);
        DUE.is("38: missing, n doesn't matter", x.sheet(0, 0, Integer.MIN_VALUE), 1);
        DUE.is("38: missing", x.put(0, 0, 1), Due.NONE);
        DUE.is("38: missing, n doesn't matter", x.sheet(0, 0, 25), 1);
        DUE.is("38: SHEET", x.sheet(4, 8, 1), Due.BEYOND);
        DUE.is("38: SHEET", x.sheet(-1, 8, 1), Due.BEYOND);
        DUE.is("38: bits", x.sheet(0, 9, 1), Due.BEYOND);
        DUE.is("38: bits", x.sheet(0, 64, 1), Due.BEYOND);
        DUE.is("38: bits ahead of STATE", x.sheet(0, -8, -1), Due.BEYOND);
        DUE.is("38: SHEET ahead of STATE", x.sheet(4, 8, -1), Due.BEYOND);
        DUE.is("38: STATE", x.sheet(0, 8, -1), Due.STATE);
        DUE.is("38: n", x.sheet(0, 8, 25), Due.BEYOND);
        DUE.is("38: still missing", x.put(0, 0, 1), Due.NONE);
        x.paper(1, 1, 1);
        x.put(3, 0, 7);
        x.sheet(3, 32, 3);
        x.curve(0, 0, 3, 0, 3);
        DUE.is("38: all 0", x.point(0, 0), 0);
        x.put(3, 0, 7);
        x.sheet(3, 32, 25);
        x.curve(0, 0, 3, 0, 3);
        DUE.is("38: an ERROR leaves it", x.point(1, 0), 7);
    }

    private static void put() {
        TwiceNoise x = new TwiceNoise();
        x.paper(1, 1, 1);
        int[] bits = {8, 16, 32};
        int[][] in = {{128, 255, 127, -129, 256}, {32768, 65535, 32767, -32769, 65536}, {99999, -99999, 0, 1, -1}};
        int[][] out = {{-128, -1, 127, 127, 0}, {-32768, -1, 32767, 32767, 0}, {99999, -99999, 0, 1, -1}};
        for (int s = 0; s < 3; s++) {
            x.sheet(s, bits[s], 5);
            for (int i = 0; i < 5; i++) {
                DUE.is("39: put", x.put(s, i, in[s][i]), 1);
            }
            int c = x.curve(0, 0, s, 0, 5);
            for (int i = 0; i < 5; i++) {
                DUE.is("39: the lowest " + bits[s] + " bits", x.point(c, i), out[s][i]);
            }
        }
        DUE.is("39: SHEET", x.put(4, 0, 0), Due.BEYOND);
        DUE.is("39: SHEET", x.put(-1, 0, 0), Due.BEYOND);
        DUE.is("39: missing", x.put(3, 99, 0), Due.NONE);
        DUE.is("39: i", x.put(0, 5, 0), Due.BEYOND);
        DUE.is("39: i", x.put(0, -1, 0), Due.BEYOND);
        DUE.is("39: i", x.put(0, Integer.MIN_VALUE, 0), Due.BEYOND);
    }

    private static void row(TwiceNoise x, String what, int sheet, int... due) {
        int c = x.curve(0, 0, sheet, 0, due.length);
        for (int j = 0; j < due.length; j++) {
            DUE.is("40: " + what + ", number " + j, x.point(c, j), due[j]);
        }
    }

    private static void move() {
        TwiceNoise x = new TwiceNoise();
        x.paper(1, 1, 1);
        x.sheet(0, 16, 5);
        x.sheet(1, 16, 3);
        x.sheet(2, 8, 5);
        for (int i = 0; i < 5; i++) {
            x.put(0, i, i + 1);
        }
        DUE.is("40: up", x.move(0, 0, 0, 1, 4), 4);
        row(x, "up, as they all were", 0, 1, 1, 2, 3, 4);
        DUE.is("40: down", x.move(0, 2, 0, 0, 3), 3);
        row(x, "down, as they all were", 0, 2, 3, 4, 3, 4);
        DUE.is("40: to another", x.move(0, 3, 1, 1, 2), 2);
        row(x, "to another", 1, 0, 3, 4);
        row(x, "the one it came from", 0, 2, 3, 4, 3, 4);
        DUE.is("40: none of it", x.move(0, 5, 1, 3, 0), 0);
        DUE.is("40: SHEET", x.move(4, 0, 0, 0, 1), Due.BEYOND);
        DUE.is("40: SHEET", x.move(0, 0, -1, 0, 1), Due.BEYOND);
        DUE.is("40: no SHEET ahead of a missing one", x.move(3, 0, 4, 0, 1), Due.BEYOND);
        DUE.is("40: missing", x.move(3, 0, 0, 0, 1), Due.NONE);
        DUE.is("40: missing ahead of n", x.move(0, 0, 3, 0, -1), Due.NONE);
        DUE.is("40: unlike bits", x.move(0, 0, 2, 0, 1), Due.KIND);
        DUE.is("40: unlike bits ahead of n", x.move(0, 0, 2, 0, -1), Due.KIND);
        int[][] wrong = {{0, 0, -1}, {-1, 0, 1}, {0, -1, 1}, {0, 0, 4}, {4, 0, 2}, {0, 2, 2}, {Integer.MAX_VALUE, 0, 1},
            {0, Integer.MAX_VALUE, 1}, {1, 1, Integer.MAX_VALUE}, {Integer.MIN_VALUE, 0, Integer.MIN_VALUE}, {6, 0, 0}, {0, 4, 0}};
        for (int[] w : wrong) {
            DUE.is("40: wrong " + java.util.Arrays.toString(w), x.move(0, w[0], 1, w[1], w[2]), Due.BEYOND);
        }
        row(x, "nothing was changed", 1, 0, 3, 4);
    }

    private static void image() {
        TwiceNoise x = new TwiceNoise();
        DUE.is("42: NONE", x.restore(), Due.NONE);
        DUE.is("41: first", x.image(), 1);
        x.paper(1, 1, 1);
        x.measure(0, 3);
        DUE.is("42: no CURVES", x.restore(), 0);
        DUE.is("42: no PAPERS", x.count(0), 0);
        x.paper(2, 1, 1);
        x.measure(0, 4);
        DUE.is("41: second, in place of the first", x.image(), 2);
        x.measure(0, 5);
        DUE.is("42: one CURVE", x.restore(), 1);
        DUE.is("42: its POINTS", x.count(9), 4);
        x.measure(0, 6);
        DUE.is("42: the IMAGE stays", x.restore(), 1);
        DUE.is("42: the IMAGE stays", x.paperIs(0, 0), 2);
        DUE.is("41: third", x.image(), 3);
    }

    private static String all(TwiceNoise x) {
        StringBuilder s = new StringBuilder();
        for (int what = 0; what < 10; what++) {
            s.append(what == 8 ? 0 : x.count(what)).append(' ');
        }
        for (int c = 0; c < 3; c++) {
            s.append(x.curveIs(c, 0)).append(' ').append(x.curveIs(c, 4)).append(' ').append(x.point(c, 2)).append(' ');
        }
        for (int what = 0; what < 6; what++) {
            s.append(x.paperIs(1, what)).append(' ');
        }
        for (int use = 0; use < 3; use++) {
            s.append(x.law(use, 3, 7, 9)).append(' ');
        }
        s.append(x.knows(1, 0, 1)).append(' ').append(x.knows(1, 1, 1)).append(' ').append(x.rules(3, 1, 0)).append(' ');
        for (int what = 0; what < 3; what++) {
            int was = x.machine(1, what, 1);
            x.machine(1, what, was);
            s.append(was).append(' ');
        }
        int w = x.draws(0);
        x.draws(w);
        return s.append(w).toString();
    }

    private static void imageKeepsAll() {
        TwiceNoise x = new TwiceNoise();
        x.paper(1, 1, 1);
        x.paper(2, 3, 4);
        x.rests(1, 0);
        x.needs(1, 1);
        for (int what = 0; what < 3; what++) {
            x.machine(1, what, 5 + what);
        }
        x.draws(99);
        x.measure(1, 4);
        x.make(0, 0, 11, 3, 3);
        x.link(0, 1, 3);
        x.tries(0, 0, 4, false);
        x.rule(5, 3);
        Due.text(x, 0, "x+100");
        Due.text(x, 1, "m");
        Due.text(x, 2, "d=4");
        Due.feed(x, "1+1");
        x.tell(-1);
        x.tell(7);
        x.sheet(0, 8, 3);
        x.voice(0, 1, 0);
        String before = all(x);
        DUE.is("41: first", x.image(), 1);
        x.paper(9, 9, 9);
        x.rests(2, 1);
        x.needs(1, 2);
        for (int what = 0; what < 3; what++) {
            x.machine(1, what, 15 + what);
        }
        x.measure(0, 5);
        x.link(1, 0, 1);
        x.link(0, 1, 1);
        x.tries(1, 0, 1, false);
        x.tries(1, 1, 1, true);
        x.rule(1, 3);
        x.text(0);
        Due.text(x, 1, "0");
        Due.text(x, 2, "0");
        Due.feed(x, "777");
        x.check(1);
        x.tell(8);
        x.put(0, 0, 44);
        x.voice(0, 0, 0);
        x.told(7);
        int told = x.told(1);
        DUE.is("41: it is another state", all(x).equals(before) ? 1 : 0, 0);
        int missing = x.told(2);
        DUE.is("42: two CURVES", x.restore(), 2);
        DUE.is("42: THE TRACE stays", x.count(8), 1);
        DUE.is("42: what told() tells stays", x.told(2), missing);
        DUE.is("42: all is as it was: " + before, all(x).equals(before) ? 1 : 0, 1);
        DUE.is("42: told", x.told(1) >= told ? 1 : 0, 1);
        x.curve(0, 0, 0, 0, 3);
        DUE.is("42: SHEETS stay", x.point(2, 0), 44);
        DUE.is("42: the numbers that wait", x.check(1), 2);
        DUE.is("42: THE TAPE", x.text(0), 1);
        x.restore();
        DUE.is("42: the IMAGE stays whole", all(x).equals(before) ? 1 : 0, 1);
    }

    private static void tellAndCheck() {
        TwiceNoise x = new TwiceNoise();
        DUE.is("44: none wait", x.check(1), 0);
        x.paper(1, 1, 1);
        Due.curve(x, 0, 0, 0, 1, 5);
        x.make(0, 0, 11, 3, 3);
        x.make(0, 0, 21, 3, 3);
        Due.curve(x, 0, 0, 7, 7, 1);
        int[][] told = {{-1, 0, 0, -1}, {-1, 0, 0}, {-1, 0}, {}, {0}, {-1, -1}, {-1, 0, 1}, {-1, 0, 0, 3}, {-1, 0, 0, -1, -1}};
        int[] due = {0, 0, 0, 0, 1, 2, 3, 4, 5};
        for (int k = 0; k < told.length; k++) {
            for (int i = 0; i < told[k].length; i++) {
                DUE.is("43: how many", x.tell(told[k][i]), i + 1);
            }
            DUE.is("44: numbers " + k, x.check(2), due[k]);
            DUE.is("44: none wait then", x.count(7), 0);
        }
        x.tell(-1);
        x.tell(0);
        x.tell(-1);
        DUE.is("44: by 1", x.check(1), 0);
        x.tell(5);
        DUE.is("44: f", x.check(0), Due.BEYOND);
        DUE.is("44: none wait then, too", x.count(7), 0);
        x.tell(5);
        DUE.is("44: f", x.check(6), Due.BEYOND);
        DUE.is("44: none wait then, too", x.count(7), 0);
        for (int k = 1; k <= 24; k++) {
            DUE.is("43: how many", x.tell(Integer.MIN_VALUE), k);
        }
        DUE.is("43: FULL", x.tell(0), Due.FULL);
        DUE.is("43: 24 wait", x.count(7), 24);
        DUE.is("44: the first is wrong", x.check(1), 1);
    }

    private static void count() {
        TwiceNoise x = new TwiceNoise();
        x.paper(1, 1, 1);
        x.paper(1, 1, 1);
        x.measure(0, 3);
        x.measure(0, 4);
        x.measure(0, 24);
        for (int k = 0; k < 4; k++) {
            x.link(0, 1, 1);
        }
        for (int k = 0; k < 7; k++) {
            x.tries(0, 0, 1, k == 0);
        }
        for (int k = 0; k < 8; k++) {
            x.rule(1, 1);
        }
        x.feed(0, 5);
        for (int k = 0; k < 9; k++) {
            x.tell(0);
        }
        x.voice(0, 2, 0);
        int[] due = {2, 3, 4, 7, 6, 8, 5, 9, 5, 31};
        for (int what = 0; what < 10; what++) {
            DUE.is("45: count(" + what + ")", x.count(what), due[what]);
        }
        DUE.is("45: what", x.count(-1), Due.BEYOND);
        DUE.is("45: what", x.count(10), Due.BEYOND);
    }

    private static void told() {
        TwiceNoise x = new TwiceNoise();
        DUE.is("46: k", x.told(0), Due.BEYOND);
        DUE.is("46: k", x.told(7), Due.BEYOND);
        DUE.is("46: k", x.told(-1), Due.BEYOND);
        DUE.is("46: k", x.told(Integer.MIN_VALUE), Due.BEYOND);
        DUE.is("46: counted, too", x.told(1), 4);
        x.paper(1, 1, 1);
        Due.curve(x, 0, 0, 1, 2, 3);
        x.measure(0, 3);
        x.measure(0, 3);
        Due.curve(x, 0, 0, 1, 2, 3);
        for (int k = 0; k < 25; k++) {
            x.tell(0);
        }
        x.restore();
        x.trace(0);
        x.rests(0, 0);
        x.rests(0, 0);
        x.sheet(0, 8, -1);
        x.as(0, 1);
        x.voice(3, 3, 1);
        x.honest(0, 0, 0, 0);
        int[] due = {0, 5, 2, 3, 1, 1, 1};
        for (int k = 1; k <= 6; k++) {
            DUE.is("46: told(" + k + ")", x.told(k), due[k]);
        }
    }
}
