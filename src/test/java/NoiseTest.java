/** Promises 16 to 27: the same noise, laws, signs, odds, who, of what. */
public final class NoiseTest {
    private static final Due DUE = new Due("noise");

    public static void main(String[] args) {
        same();
        bent();
        bentOrder();
        bentLimits();
        pairs();
        prints();
        worked();
        sign();
        honest();
        could();
        hands();
        saw();
        DUE.end();
    }

    private static void three(String what, int[] due, TwiceNoise x, int a, int b) {
        for (int k = 0; k < 3; k++) {
            DUE.is("16: " + what + ", " + k, x.same(a, b, k), due[k]);
        }
    }

    private static void same() {
        TwiceNoise x = new TwiceNoise();
        x.paper(1, 1, 1);
        Due.curve(x, 0, 0, 0, 1, 0, 5, 0, 1, 0); // HAIRS -2, 6, -10, 6, -2
        Due.curve(x, 0, 0, 9, 9, 15, 11, 17, 7); // HAIRS 6, -10, 10, -16
        Due.curve(x, 0, 0, 7, 8, 7, 12, 7, 8, 7); // as 0, and 7 more
        Due.curve(x, 0, 0, 0, 0, 77); // HAIR 77
        Due.curve(x, 0, 0, 0, 0, 6, 12, 24); // HAIRS 6, 0, 6
        three("a row of two", new int[] {2, 2, 1}, x, 0, 1);
        three("the other way", new int[] {2, 1, 2}, x, 1, 0);
        three("all", new int[] {5, 1, 1}, x, 0, 2);
        three("none", new int[] {0, 0, 0}, x, 0, 3);
        three("of several the first in a, then in b", new int[] {1, 2, 1}, x, 0, 4);
        three("of several the first in a, then in b", new int[] {1, 1, 2}, x, 4, 0);
        DUE.is("16: alike", x.same(1, 1, 0), Due.BEYOND);
        DUE.is("16: a", x.same(5, 1, 0), Due.BEYOND);
        DUE.is("16: b", x.same(1, 5, 0), Due.BEYOND);
        DUE.is("16: a", x.same(-1, 1, 0), Due.BEYOND);
        DUE.is("16: what", x.same(0, 1, 3), Due.BEYOND);
        DUE.is("16: what", x.same(0, 1, -1), Due.BEYOND);
    }

    private static void bending(String what, int[] due, TwiceNoise x, int a, int b, int f) {
        for (int k = 0; k < due.length; k++) {
            DUE.is("17: " + what + ", " + k, x.bent(a, b, f, k), due[k]);
        }
    }

    private static void bent() {
        TwiceNoise x = new TwiceNoise();
        x.paper(1, 1, 1);
        Due.curve(x, 0, 0, 0, 6, 18, 12, 48);
        Due.curve(x, 0, 0, 100, 110, 105); // from POINT 1 on: of 12, 6 by 5 and 6
        Due.curve(x, 0, 0, 0, -30, -25); // back from POINT 4: of -36, -30 by 5 and 6
        Due.curve(x, 0, 0, 7, 3, -5, -1, -25); // all of it, turned, 2 by 3
        Due.curve(x, 0, 0, 1, 1, 1);
        DUE.is("17: 5 by 6 is beyond 5", x.bent(0, 1, 5, 0), 0);
        DUE.is("17: 5 by 6 is beyond 5", x.bent(0, 2, 5, 0), 0);
        bending("turned, 2 by 3", new int[] {1, 0, 1, 2, 3, 0}, x, 0, 3, 3);
        DUE.is("17: f is too low", x.bent(0, 3, 2, 0), 0);
        DUE.is("17: none", x.bent(0, 3, 2, 1), Due.NONE);
        DUE.is("17: none", x.bent(0, 3, 2, 5), Due.NONE);
        bending("the other way", new int[] {1, 0, 1, 3, 2, 0}, x, 3, 0, 5);
        DUE.is("17: a's POINTS are all alike", x.bent(4, 1, 5, 0), 0);
        DUE.is("17: b's POINTS are all alike", x.bent(0, 4, 5, 0), 0);
        DUE.is("17: b has more POINTS", x.bent(1, 0, 5, 0), 0);
        DUE.is("17: told", x.told(2), 2);
        DUE.is("17: alike", x.bent(0, 0, 5, 0), Due.BEYOND);
        DUE.is("17: a", x.bent(5, 0, 5, 0), Due.BEYOND);
        DUE.is("17: b", x.bent(0, -1, 5, 0), Due.BEYOND);
        DUE.is("17: f", x.bent(0, 1, 0, 0), Due.BEYOND);
        DUE.is("17: f", x.bent(0, 1, 6, 0), Due.BEYOND);
        DUE.is("17: what", x.bent(0, 1, 5, 6), Due.BEYOND);
        DUE.is("17: what ahead of NONE", x.bent(0, 3, 2, -1), Due.BEYOND);
    }

    private static void bentOrder() {
        TwiceNoise x = new TwiceNoise();
        x.paper(1, 1, 1);
        // From i 0 on 0, 4, 0; from 2 on 0, 2, 0; from 4 on 0, -2, 0; back from 6, 4 and 2 likewise.
        Due.curve(x, 0, 0, 0, 4, 0, 2, 0, -2, 0);
        Due.curve(x, 0, 0, 5, 7, 5);
        bending("ahead of 1 by 2 stands 1 by 1", new int[] {6, 0, 0, 1, 1, 2}, x, 0, 1, 5);
        bending("f 1", new int[] {4, 0, 0, 1, 1, 2}, x, 0, 1, 1);
        Due.curve(x, 0, 0, 5, 3, 5);
        bending("not turned ahead of turned, though i is greater", new int[] {6, 0, 0, 1, 1, 4}, x, 0, 2, 5);
        Due.curve(x, 0, 0, 0, 0, 3, 0, 0);
        Due.curve(x, 0, 0, 0, 0, 1, 0, 0);
        bending("way ahead of back", new int[] {2, 0, 0, 1, 3, 0}, x, 3, 4, 5);
        Due.curve(x, 0, 0, 3, 2, 0);
        Due.curve(x, 0, 0, 0, 2, 3);
        bending("back", new int[] {1, 1, 0, 1, 1, 2}, x, 6, 5, 5);
        Due.curve(x, 0, 0, 1, 0, 3, 2);
        Due.curve(x, 0, 0, 9, 8, 11);
        // From 0 on -1, 2; back from 3 on 1, -2 turned.
        bending("several", new int[] {2, 0, 0, 1, 1, 0}, x, 7, 8, 1);
    }

    private static void bentLimits() {
        TwiceNoise x = new TwiceNoise();
        x.paper(1, 1, 1);
        Due.curve(x, 0, 0, 0, 99999, -99999);
        Due.curve(x, 0, 0, 99999, -99999, 99999);
        DUE.is("17: the greatest POINTS", x.bent(0, 1, 5, 0), 0);
        int[] up = new int[24];
        int[] down = new int[24];
        for (int j = 0; j < 24; j++) {
            up[j] = j * j;
            down[j] = -5 * up[j];
        }
        Due.curve(x, 0, 0, up);
        Due.curve(x, 0, 0, down);
        bending("24 POINTS", new int[] {1, 0, 1, 5, 1, 0}, x, 2, 3, 5);
        bending("24 POINTS", new int[] {1, 0, 1, 1, 5, 0}, x, 3, 2, 5);
        down[23]++;
        Due.curve(x, 0, 0, down);
        DUE.is("17: but for the last POINT", x.bent(2, 4, 5, 0), 0);
        x.make(2, 1, 31, 9, 2303);
        bending("back from the last", new int[] {1, 1, 0, 3, 1, 23}, x, 2, 5, 5);
    }

    private static void pairs() {
        TwiceNoise x = new TwiceNoise();
        x.paper(1, 1, 1);
        DUE.is("18: no CURVES", x.pairs(1), 0);
        Due.curve(x, 0, 0, 0, 1, 5);
        DUE.is("18: one CURVE", x.pairs(1), 0);
        Due.curve(x, 0, 0, 9, 10, 14);
        DUE.is("18: both ways", x.pairs(1), 2);
        Due.curve(x, 0, 0, 0, 2, 10);
        DUE.is("18: not by 1", x.pairs(1), 2);
        DUE.is("18: by 2", x.pairs(2), 6);
        Due.curve(x, 0, 0, 0, 2, 10, 11);
        DUE.is("18: one way", x.pairs(2), 9);
        DUE.is("18: f", x.pairs(0), Due.BEYOND);
        DUE.is("18: f", x.pairs(6), Due.BEYOND);
    }

    private static void prints() {
        TwiceNoise x = new TwiceNoise();
        x.paper(1, 1, 50);
        Due.curve(x, 0, 0, -1, -10, -11, 0, 9);
        Due.curve(x, 0, 0, 1, -1, -10, 9, 10, 77, 78);
        DUE.is("19: downward", x.prints(0, 1, 10), 3);
        DUE.is("19: the other way", x.prints(1, 0, 10), 3);
        DUE.is("19: of 1", x.prints(0, 1, 1), 5);
        DUE.is("19: of 9999", x.prints(0, 1, 9999), 1);
        DUE.is("19: width", x.prints(0, 1, 0), Due.BEYOND);
        DUE.is("19: width", x.prints(0, 1, 10000), Due.BEYOND);
        DUE.is("19: width", x.prints(0, 1, -1), Due.BEYOND);
        DUE.is("19: alike", x.prints(0, 0, 1), Due.BEYOND);
        DUE.is("19: a", x.prints(2, 0, 1), Due.BEYOND);
        DUE.is("19: b", x.prints(0, 2, 1), Due.BEYOND);
    }

    private static void worked() {
        TwiceNoise x = new TwiceNoise();
        x.paper(4, 1, 1);
        Due.curve(x, 0, 2, 0, 13, 14, 30, 99999);
        x.machine(2, 0, 3);
        DUE.is("20: within 6", x.worked(0, 6, 0), 4);
        DUE.is("20: within 5", x.worked(0, 5, 0), 3);
        DUE.is("20: within 0", x.worked(0, 0, 0), 2);
        DUE.is("20: within 99999", x.worked(0, 99999, 0), 5);
        DUE.is("20: greatest", x.worked(0, 0, 1), 99959);
        DUE.is("20: no multiples", x.worked(0, 0, 2), 1);
        x.machine(2, 0, 6);
        DUE.is("20: no multiples", x.worked(0, 0, 2), 2);
        Due.text(x, 0, "9999*9999*21+9999*8+d+m");
        DUE.is("20: as longs", x.worked(0, 0, 1), 2000000000);
        Due.text(x, 0, "0-9999*9999*21-9999*8");
        DUE.is("20: as longs", x.worked(0, 0, 1), 2000000000);
        DUE.is("20: no distance wraps", x.worked(0, 99999, 0), 0);
        Due.text(x, 0, "d*10+m");
        DUE.is("20: m and d", x.worked(0, 2, 0), 0);
        DUE.is("20: m and d", x.worked(0, 12, 0), 1);
        DUE.is("20: CURVE", x.worked(1, 0, 0), Due.BEYOND);
        DUE.is("20: w", x.worked(0, -1, 1), Due.BEYOND);
        DUE.is("20: w", x.worked(0, 100000, 2), Due.BEYOND);
        DUE.is("20: what", x.worked(0, 0, 3), Due.BEYOND);
        DUE.is("20: what", x.worked(0, 0, -1), Due.BEYOND);
    }

    private static void sign() {
        TwiceNoise x = new TwiceNoise();
        x.paper(7, 1, 1);
        x.paper(8, 1, 1);
        Due.curve(x, 0, 0, 0, 0, 5); // HAIR 5
        Due.curve(x, 0, 1, 0, 0, -5); // HAIR -5
        Due.curve(x, 0, 11, 0, 0, 0);
        Due.curve(x, 0, 1, 0, 0, 0);
        DUE.is("21: above 0", x.sign(0), 1);
        DUE.is("21: below 0", x.sign(1), 1);
        DUE.is("21: the DAY isn't BAD", x.sign(2), 0);
        DUE.is("21: none", x.sign(3), 2);
        DUE.is("22: one", x.unsigned(), 8);
        x.machine(0, 2, 5);
        x.machine(1, 2, 4);
        DUE.is("21: not above 5", x.sign(0), 2);
        DUE.is("21: below -4", x.sign(1), 1);
        x.machine(1, 2, 5);
        DUE.is("21: not below -5", x.sign(1), 2);
        DUE.is("22: three", x.unsigned(), 11);
        Due.text(x, 1, "m=1");
        DUE.is("21: BAD by m", x.sign(0), 0);
        DUE.is("21: BAD by m", x.sign(2), 2);
        DUE.is("22: three", x.unsigned(), 14);
        Due.text(x, 1, "0-2");
        DUE.is("22: what is not 0 is true", x.unsigned(), 15);
        DUE.is("21: CURVE", x.sign(4), Due.BEYOND);
        DUE.is("21: CURVE", x.sign(-1), Due.BEYOND);
        DUE.is("22: none", new TwiceNoise().unsigned(), 0);
    }

    private static void honest() {
        TwiceNoise x = new TwiceNoise();
        DUE.is("23: 3 of 9, above", x.honest(1, 4, 1, 0), 1);
        DUE.is("23: 3 of 9, below", x.honest(1, 4, 1, 1), 3);
        DUE.is("23: 5 of 9", x.honest(2, 4, 2, 0), 25);
        DUE.is("23: 5 of 9", x.honest(2, 4, 2, 1), 81);
        DUE.is("23: all", x.honest(8, 50, 50, 0), 1);
        DUE.is("23: all", x.honest(8, 50, 50, 1), 1);
        DUE.is("23: one of 101", x.honest(8, 50, 0, 1), 10828567056280801L);
        DUE.is("23: 45 of 75 is 3 of 5", x.honest(3, 37, 22, 0), 27);
        DUE.is("23: 45 of 75 is 3 of 5", x.honest(3, 37, 22, 1), 125);
        int[][] wrong = {{0, 1, 0, 0}, {9, 1, 0, 0}, {1, 0, 0, 0}, {1, 51, 0, 0}, {1, 1, -1, 0}, {1, 1, 2, 0}, {1, 1, 0, -1}, {1, 1, 0, 2}};
        for (int[] w : wrong) {
            DUE.is("23: wrong", x.honest(w[0], w[1], w[2], w[3]), Due.BEYOND);
        }
        DUE.is("23: told", x.told(1), wrong.length);
    }

    private static void could() {
        TwiceNoise x = new TwiceNoise();
        x.paper(5, 1, 1);
        x.paper(4, 3, 1);
        x.paper(6, 2, 1);
        Due.curve(x, 0, 0, 0, 1, 5); // 0: DAY 5
        Due.curve(x, 0, 10, 0, 1, 5); // 1: DAY 4
        Due.curve(x, 0, 20, 0, 2, 10); // 2: DAY 6, no NAME with PAPER 0
        Due.curve(x, 0, 0, 0, 1, 5); // 3: DAY 5
        Due.curve(x, 0, 0, 7, 7, 1); // 4: of none
        int[] by2 = {2, 0, 2, 3, 0};
        int[] by1 = {2, 0, 0, 3, 0};
        for (int c = 0; c < 5; c++) {
            DUE.is("24: could(" + c + ", 2)", x.could(c, 2), by2[c]);
            DUE.is("24: could(" + c + ", 1)", x.could(c, 1), by1[c]);
        }
        DUE.is("25: by 2", x.sources(2), 18);
        DUE.is("25: by 1", x.sources(1), 22);
        DUE.is("24: CURVE", x.could(5, 1), Due.BEYOND);
        DUE.is("24: CURVE", x.could(-1, 1), Due.BEYOND);
        DUE.is("24: f", x.could(0, 0), Due.BEYOND);
        DUE.is("24: f", x.could(0, 6), Due.BEYOND);
        DUE.is("25: f", x.sources(0), Due.BEYOND);
        DUE.is("25: f", x.sources(6), Due.BEYOND);
        DUE.is("25: none", new TwiceNoise().sources(1), 0);
    }

    private static void hands() {
        TwiceNoise x = new TwiceNoise();
        DUE.is("26: no CURVES", x.hands(1), 0);
        x.paper(1, 0b00111, 1);
        x.paper(2, 0b01100, 1);
        x.paper(3, 0b11010, 1);
        x.paper(4, 0b10000, 1);
        Due.curve(x, 0, 0, 0, 1, 5);
        DUE.is("26: a SOURCE alone", x.hands(1), 0);
        x.make(100, 0, 11, 3, 3); // by NAME 2 alone
        DUE.is("26: NAME 2", x.hands(1), 0b00100);
        x.make(200, 0, 11, 3, 3); // by NAME 1, or out of CURVE 1 by NAME 3
        DUE.is("26: of {1, 2} and {2, 3} the least bits", x.hands(1), 0b00110);
        x.make(302, 0, 11, 3, 3); // by NAME 4 alone
        DUE.is("26: three", x.hands(1), 0b10110);
        Due.curve(x, 0, 10, 0, 2, 10); // by NAME 2, but by 2 alone
        DUE.is("26: by 2", x.hands(2), 0b10110);
        Due.curve(x, 0, 20, 50, 3, 9);
        x.make(205, 0, 11, 3, 3); // of the same PAPER: NAMES 1, 3 or 4
        DUE.is("26: one that is needed anyway", x.hands(1), 0b10110);
        DUE.is("26: f", x.hands(0), Due.BEYOND);
        DUE.is("26: f", x.hands(6), Due.BEYOND);
        TwiceNoise y = new TwiceNoise();
        y.paper(1, 0b110, 1);
        y.paper(1, 0b101, 1);
        y.paper(1, 0b111, 1);
        Due.curve(y, 0, 0, 0, 1, 5);
        y.make(100, 0, 11, 3, 3); // by NAME 2
        y.make(200, 0, 11, 3, 3); // by NAME 0 (of 1), 1 (of 0) or 2
        DUE.is("26: the fewest, not the least bits", y.hands(1), 0b100);
        TwiceNoise z = new TwiceNoise();
        z.paper(1, 255, 1);
        Due.curve(z, 0, 0, 0, 1, 5);
        for (int name = 0; name < 8; name++) {
            z.paper(2, 1 << name, 1);
            z.make(100 * (name + 1), 0, 11, name, 3);
        }
        DUE.is("26: all", z.hands(1), 255);
    }

    private static void saw() {
        TwiceNoise x = new TwiceNoise();
        x.paper(5, 129, 1);
        x.paper(999, 128, 1);
        x.paper(0, 1, 1);
        DUE.is("27: none yet", x.saw(7, 4), 0);
        DUE.is("27: on the DAY", x.saw(7, 5), 1);
        DUE.is("27: all", x.saw(7, 999), 3);
        DUE.is("27: ahead", x.saw(0, 4), 4);
        DUE.is("27: another NAME", x.saw(1, 999), 0);
        DUE.is("27: NAME", x.saw(-1, 0), Due.BEYOND);
        DUE.is("27: NAME", x.saw(8, 0), Due.BEYOND);
        DUE.is("27: DAY", x.saw(0, -1), Due.BEYOND);
        DUE.is("27: DAY", x.saw(0, 1000), Due.BEYOND);
    }
}
