import java.math.BigInteger;

/** A wrap-around: ints that wrap in DRAWS, TEXTS and VOICES; what is held; what is told as so much at most. */
public final class WrapTest {
    private static final Edge EDGE = new Edge("wrap");
    private static final int LEAST = Integer.MIN_VALUE;
    private static final int MOST = Integer.MAX_VALUE;
    // 9999 * 9999 * 21 + 9999 * 4790 + 8416 is the greatest int.
    private static final String MOST_TEXT = "9999*9999*21+9999*4790+8416";
    private static final String LEAST_TEXT = "-(" + MOST_TEXT + ")-1";

    public static void main(String[] args) {
        draws();
        drawsWithoutSign();
        texts();
        textsByNought();
        truths();
        lawOfPoints();
        voices();
        voicesCut();
        measureHeld();
        makeHeld();
        makeCut();
        prints();
        distances();
        sheets();
        words();
        EDGE.end();
    }

    /** An int of a number of any size, as ints wrap. */
    private static int wrapped(BigInteger v) {
        return v.intValue();
    }

    private static int next(int w) {
        return wrapped(BigInteger.valueOf(w).multiply(BigInteger.valueOf(1103515245)).add(BigInteger.valueOf(12345)));
    }

    private static void draws() {
        for (int first : new int[] {LEAST, LEAST + 1, -2, -1, 0, 1, 2, 65535, 65536, MOST - 1, MOST}) {
            TwiceNoise x = new TwiceNoise();
            x.paper(1, 1, 1);
            x.draws(first);
            x.measure(0, 3);
            EDGE.is("Term 1: ints that wrap: w from " + first, x.draws(first), next(next(next(first))));
            EDGE.is("3: any int is kept", x.draws(0), first);
        }
        EDGE.is("Term 1: by hand", next(1), 1103527590);
        EDGE.is("Term 1: by hand, it wraps", next(1103527590), -1770082073);
    }

    /** Of a w below 0 what stands above its lowest 16 bits is a number without sign. */
    private static void drawsWithoutSign() {
        int below = 0;
        for (int noise : new int[] {1, 7, 50}) {
            TwiceNoise x = new TwiceNoise();
            x.paper(1, 1, 1);
            x.machine(3, 0, 99);
            x.machine(3, 1, noise);
            int w = 1;
            x.measure(3, 24);
            for (int j = 0; j < 24; j++) {
                w = next(w);
                below += w < 0 ? 1 : 0;
                long high = (w & 0xffffffffL) / 65536;
                EDGE.is("Term 1: a draw below n", x.point(0, j), 10 * j + 99 * (high % (2 * noise + 1) - noise));
            }
        }
        EDGE.is("Term 1: some w are below 0", below > 10 ? 1 : 0, 1);
        TwiceNoise y = new TwiceNoise();
        y.paper(1, 1, 1);
        y.machine(0, 1, 50);
        for (int w : new int[] {1, 2, 3, 4, 5, 6, 7, 8}) {
            y.draws(w);
            int c = y.measure(0, 24);
            for (int j = 0; j < 24; j++) {
                int off = y.point(c, j) - 10 * j;
                EDGE.is("7: no more than NOISE off", off >= -50 && off <= 50 ? 1 : 0, 1);
            }
        }
    }

    private static void comes(String text, int a, int b, long due) {
        TwiceNoise x = new TwiceNoise();
        EDGE.is("14: " + text + " is a TEXT", Due.text(x, 0, text) >= 0 ? 1 : 0, 1);
        EDGE.is("Term 2: ints that wrap: " + text + " of " + a + ", " + b, x.law(0, a, b, 0), due);
        EDGE.is("15: an answer may be as low as an ERROR", Edge.told(x).stream().mapToInt(k -> k).sum(), 0);
    }

    private static void texts() {
        comes("x+m", MOST, 1, LEAST);
        comes("x+m", LEAST, -1, MOST);
        comes("x+m", LEAST, LEAST, 0);
        comes("x-m", LEAST, 1, MOST);
        comes("x-m", 0, LEAST, LEAST);
        comes("x-m", MOST, -1, LEAST);
        comes("x*m", 65536, 65536, 0);
        comes("x*m", 65536, 32768, LEAST);
        comes("x*m", LEAST, -1, LEAST);
        comes("x*m", MOST, MOST, 1);
        comes("x*m", 123456789, 987654321, wrapped(BigInteger.valueOf(123456789).multiply(BigInteger.valueOf(987654321))));
        comes("-x", LEAST, 0, LEAST);
        comes("--x", LEAST, 0, LEAST);
        comes("-x", MOST, 0, LEAST + 1);
        comes("0-x", LEAST, 0, LEAST);
        comes("x/m", LEAST, -1, LEAST);
        comes("x%m", LEAST, -1, 0);
        comes("9999*9999*9999", 0, 0, wrapped(BigInteger.valueOf(9999).pow(3)));
        comes(MOST_TEXT, 0, 0, MOST);
        comes(LEAST_TEXT, 0, 0, LEAST);
        comes(MOST_TEXT + "+1", 0, 0, LEAST);
        comes("x", -1000001, 0, Due.BEYOND);
        comes("x", LEAST, 0, LEAST);
        TwiceNoise x = new TwiceNoise();
        EDGE.is("Term 2: without a TEXT, too: 10 * x", x.law(0, 429496730, 0, 0), 4);
        EDGE.is("Term 2: without a TEXT, too: 10 * x", x.law(0, LEAST, 0, 0), 0);
        EDGE.is("Term 2: without a TEXT, too: 10 * x", x.law(0, MOST, 0, 0), -10);
    }

    private static void textsByNought() {
        for (int v : new int[] {LEAST, -7, -1, 0, 1, 7, MOST}) {
            comes("x/m", v, 0, 0);
            comes("x%m", v, 0, 0);
            comes("x/0", v, 0, 0);
            comes("x%0", v, 0, 0);
            comes("x/(m-m)+5", v, 9, 5);
            comes("1?x:x/0", v, 0, v);
            comes("0?x%0:x", v, 0, v);
        }
        comes("x/m", -7, 2, -3);
        comes("x/m", 7, -2, -3);
        comes("x/m", -1, 2, 0);
        comes("x%m", -7, 2, -1);
        comes("x%m", 7, -2, 1);
    }

    /** What is not 0 is true; & | < = > are 1 or 0. */
    private static void truths() {
        int[] all = {LEAST, -2, -1, 0, 1, 2, 256, 65536, MOST};
        for (int a : all) {
            for (int b : all) {
                comes("x&m", a, b, a != 0 && b != 0 ? 1 : 0);
                comes("x|m", a, b, a != 0 || b != 0 ? 1 : 0);
                comes("x<m", a, b, a < b ? 1 : 0);
                comes("x=m", a, b, a == b ? 1 : 0);
                comes("x>m", a, b, a > b ? 1 : 0);
                comes("x?m:7", a, b, a != 0 ? b : 7);
            }
        }
    }

    /** LAW, BAD and SAID as the acts ask them: what is not 0 is true there, too. */
    private static void lawOfPoints() {
        TwiceNoise x = new TwiceNoise();
        x.paper(0, 1, 1);
        Due.curve(x, 0, 0, 0, 0, 0);
        x.tries(0, 0, 5, false);
        x.link(0, 1, 1);
        String[] texts = {LEAST_TEXT, "0-1", "0", "1", "2", "256", MOST_TEXT};
        for (String text : texts) {
            boolean holds = !text.equals("0");
            Due.text(x, 1, text);
            Due.text(x, 2, text);
            EDGE.is("Term 4: BAD by " + text, x.sign(0), holds ? 2 : 0);
            EDGE.is("Term 4: BAD by " + text, x.unsigned(), holds ? 1 : 0);
            EDGE.is("Term 5: SAID by " + text, x.knows(1, 0, 1), holds ? 6 : Due.NONE);
        }
    }

    private static void speaks(TwiceNoise x, int curve, int act, int v, BigInteger due) {
        EDGE.is("Term 6: ints that wrap: voice(" + curve + ", " + act + ", " + v + ")", x.voice(curve, act, v), wrapped(due));
    }

    private static BigInteger big(long v) {
        return BigInteger.valueOf(v);
    }

    /** CURVE k is of KIND k and has 9 POINTS. Each step of a VOICE wraps; where none divides, once at the end will do. */
    private static void voices() {
        TwiceNoise x = Edge.kinds();
        BigInteger two = big(2);
        for (int v : new int[] {LEAST, LEAST + 1, LEAST + 5, -1000010, -9, -1, 0, MOST / 2, 1 << 30, MOST - 9, MOST - 8, MOST}) {
            BigInteger shows = big(v).add(big(9));
            BigInteger bars = shows.multiply(two);
            for (int kind : new int[] {0, 1, 4, 6, 7}) {
                speaks(x, kind, 0, v, shows);
                speaks(x, kind, 1, v, kind == 1 || kind == 6 ? bars.add(big(3)) : bars);
            }
            for (int kind : new int[] {0, 1, 2, 4, 6}) {
                speaks(x, kind, 3, v, big(v / (9 - kind)));
            }
            speaks(x, 0, 2, v, bars);
            speaks(x, 1, 2, v, big(wrapped(bars.add(two)) ^ 9));
            speaks(x, 3, 0, v, shows.negate());
            speaks(x, 3, 1, v, bars.negate());
            speaks(x, 3, 2, v, bars.negate().subtract(big(3)));
            speaks(x, 3, 3, v, big(v / 6).subtract(big(23)));
            speaks(x, 4, 2, v, bars.subtract(big(4)).multiply(big(3)));
            speaks(x, 5, 0, v, shows.add(big(5)).negate());
            speaks(x, 5, 1, v, shows.add(big(5)).multiply(two).negate());
            speaks(x, 5, 2, v, shows.add(big(5)).multiply(two).negate().subtract(big(5)).add(big(16)));
            speaks(x, 5, 3, v, big(v / 4).add(big(-30 - 5 + 16)));
            speaks(x, 6, 2, v, big(wrapped(bars.add(big(3 - 6))) ^ 9).add(big((6 + 9) * 2 + 3)));
            speaks(x, 7, 2, v, bars.subtract(big(7)).multiply(big(3)));
            speaks(x, 7, 3, v, bars.subtract(big(7)).multiply(big(3)).subtract(big(v / 2)));
            // SMOOTHED halves what has wrapped before.
            BigInteger smoothBars = big(wrapped(big(v - 1L).add(big(9))) / 2).multiply(two).add(big(3));
            speaks(x, 2, 0, v, big(wrapped(shows) / 2));
            speaks(x, 2, 1, v, smoothBars);
            speaks(x, 2, 2, v, big(wrapped(smoothBars.subtract(two)) ^ 9));
        }
        EDGE.is("36: as low as an ERROR is no ERROR", Edge.told(x).stream().mapToInt(k -> k).sum(), 0);
    }

    /** x by (p - n), cut, for p - n from 3 down to -3; PARTED if that is 0. */
    private static void voicesCut() {
        TwiceNoise x = new TwiceNoise();
        x.paper(1, 1, 1);
        for (int c = 0; c < 7; c++) {
            Due.curve(x, 0, 0, 1, 2, 4);
        }
        for (int v : new int[] {LEAST, LEAST + 1, -7, -3, -2, -1, 0, 1, 2, 3, 7, MOST}) {
            for (int c = 0; c < 7; c++) {
                int by = 3 - c;
                long due = by == 0 ? Due.PARTED : wrapped(big(v).divide(big(by)));
                EDGE.is("Term 6: " + v + " by " + by + ", cut", x.voice(c, 3, v), due);
            }
        }
        EDGE.is("Term 6: the least by -1 wraps", x.voice(4, 3, LEAST), LEAST);
        EDGE.is("36: PARTED is counted", x.told(6), 12);
        TwiceNoise y = Edge.kinds();
        EDGE.is("Term 6: -9 - 1 and 9 by 2, cut", y.voice(2, 0, -10), 0);
        EDGE.is("Term 6: -3 by 2, cut", y.voice(2, 0, -12), -1);
    }

    private static void measured(String text, int noise, int least, int most) {
        TwiceNoise x = new TwiceNoise();
        x.paper(1, 1, 1);
        x.machine(0, 0, 99);
        x.machine(0, 1, noise);
        Due.text(x, 0, text);
        x.measure(0, 24);
        for (int j = 0; j < 24; j++) {
            int v = x.point(0, j);
            EDGE.is("7: held within -99999 .. 99999: " + text, v >= least && v <= most ? v : -7, v);
        }
    }

    private static void measureHeld() {
        measured("9999*10+9", 0, 99999, 99999);
        measured("9999*10+10", 0, 99999, 99999);
        measured("9999*10+8", 0, 99998, 99998);
        measured("-9999*10-9", 0, -99999, -99999);
        measured("-9999*10-10", 0, -99999, -99999);
        measured("-9999*10-8", 0, -99998, -99998);
        measured(MOST_TEXT, 0, 99999, 99999);
        measured(LEAST_TEXT, 0, -99999, -99999);
        // LAW and noise are added without a wrap.
        measured(MOST_TEXT, 50, 99999, 99999);
        measured(LEAST_TEXT, 50, -99999, -99999);
        TwiceNoise x = new TwiceNoise();
        x.paper(1, 1, 1);
        x.machine(0, 0, 99);
        x.machine(0, 1, 50);
        for (int sign = -1; sign <= 1; sign += 2) {
            Due.text(x, 0, sign < 0 ? "-9999*10" : "9999*10");
            x.draws(5);
            int c = x.measure(0, 24);
            int w = 5;
            for (int j = 0; j < 24; j++) {
                w = next(w);
                int v = sign * 99990 + 99 * ((w >>> 16) % 101 - 50);
                EDGE.is("7: held, with noise", x.point(c, j), Math.max(-99999, Math.min(99999, v)));
            }
        }
    }

    private static void made(int v, int by, int factors, int shift, int due) {
        TwiceNoise x = new TwiceNoise();
        x.paper(1, 1, 1);
        Due.curve(x, 0, 0, 0, v, 0);
        x.make(0, by, factors, shift, (by & 1) == 1 ? 203 : 3);
        EDGE.is("8: " + v + " by " + by + ", " + factors + ", " + shift, x.point(1, 1), due);
    }

    /** The greatest are held, behind the shift. */
    private static void makeHeld() {
        for (int by = 0; by < 4; by++) {
            int turned = by < 2 ? 1 : -1;
            made(99999, by, 11, 0, turned * 99999);
            made(99999, by, 11, turned, turned * 99999);
            made(99999, by, 11, -turned, turned * 99998);
            made(99999, by, 11, 999 * turned, turned * 99999);
            made(99999, by, 21, -999 * turned, turned * 99999);
            made(99999, by, 51, 0, turned * 99999);
            made(-99999, by, 51, 0, -turned * 99999);
            made(-99999, by, 11, -turned, -turned * 99999);
            made(-99999, by, 51, 999 * turned, -turned * 99999);
            made(99999, by, 55, 0, turned * 99999);
            made(49999, by, 21, turned, turned * 99999);
            made(49999, by, 21, 2 * turned, turned * 99999);
            made(0, by, 51, 999, 999);
            made(0, by, 51, -999, -999);
        }
    }

    /** Cut toward 0, ahead of turning and of the shift. */
    private static void makeCut() {
        for (int v = -6; v <= 6; v++) {
            for (int up = 1; up <= 5; up++) {
                for (int down = 1; down <= 5; down++) {
                    int cut = big((long) v * up).divide(big(down)).intValue();
                    made(v, 0, 10 * up + down, 0, cut);
                    made(v, 2, 10 * up + down, 1, 1 - cut);
                    made(v, 3, 10 * up + down, -1, -1 - cut);
                }
            }
        }
    }

    /** Quotients are cut, but for prints: these go downward. */
    private static void prints() {
        TwiceNoise x = new TwiceNoise();
        x.paper(1, 1, 1);
        Due.curve(x, 0, 0, -1, -9999, -10000, 0, 9998, 9999, -99999);
        Due.curve(x, 0, 0, 0, -1, -9999, 9998, 9999, 9999, 99999);
        EDGE.is("19: -1 and 0; -10000 and -9999; 9998 and 9999; the ends", x.prints(0, 1, 9999), 4);
        EDGE.is("19: of width 1 all but one", x.prints(0, 1, 1), 6);
    }

    private static void far(String text, int point, int step, long distance) {
        TwiceNoise x = new TwiceNoise();
        x.paper(1, 1, 1);
        Due.curve(x, 0, 0, point, point, point);
        x.machine(0, 0, step);
        Due.text(x, 0, text);
        String call = "20: " + point + " from " + text;
        EDGE.is(call + ", told as 2000000000 at most", x.worked(0, 0, 1), Math.min(2000000000L, distance));
        EDGE.is(call + ", of longs: no multiples of " + step, x.worked(0, 0, 2), distance % step == 0 ? 0 : 3);
        EDGE.is(call + ", of longs: within 99999", x.worked(0, 99999, 0), distance <= 99999 ? 3 : 0);
    }

    private static void distances() {
        // 9999 * 9999 * 20 + 9999 * 40 + 20 is 2000000000.
        String billions = "9999*9999*20+9999*40+20";
        far(billions, 0, 1, 2000000000L);
        far(billions + "-1", 0, 1, 1999999999L);
        far(billions + "+1", 0, 1, 2000000001L);
        far("-(" + billions + ")", 0, 7, 2000000000L);
        far("-(" + billions + ")", -1, 7, 1999999999L);
        far("-(" + billions + ")", 1, 3, 2000000001L);
        far(billions, -99999, 1, 2000099999L);
        for (int step : new int[] {1, 2, 3, 7, 98, 99}) {
            for (int point : new int[] {-99999, -1, 0, 1, 2, 99999}) {
                far(MOST_TEXT, point, step, (long) MOST - point);
                far(LEAST_TEXT, point, step, (long) point - LEAST);
            }
        }
        far("0", 99999, 1, 99999);
        far("0", -99999, 99, 99999);
        far("0-1", 99999, 1, 100000);
        far("1", -99999, 1, 100000);
    }

    private static int kept(int bits, int v) {
        TwiceNoise x = new TwiceNoise();
        x.paper(1, 1, 1);
        x.sheet(1, bits, 3);
        EDGE.is("39: put", x.put(1, 1, v), 1);
        int c = x.curve(0, 0, 1, 0, 3);
        return c < 0 ? c : x.point(c, 1);
    }

    /** A number becomes the lowest bits of v, with a sign. */
    private static void sheets() {
        for (int v : new int[] {LEAST, -99999, -65537, -65536, -32769, -32768, -257, -256, -129, -128, -1, 0, 1, 127, 128, 129,
            255, 256, 257, 32767, 32768, 65535, 65536, 99999, MOST}) {
            EDGE.is("39: of 8 bits: " + v, kept(8, v), Math.floorMod(v + 128L, 256L) - 128);
            EDGE.is("39: of 16 bits: " + v, kept(16, v), Math.floorMod(v + 32768L, 65536L) - 32768);
            EDGE.is("39: of 32 bits: " + v, kept(32, v), v >= -99999 && v <= 99999 ? v : Due.BEYOND);
        }
    }

    /** The bytes of a word: the lowest first, as many as asked, also of a word below 0. */
    private static void words() {
        for (int n = 1; n <= 8; n++) {
            String text = "x*1+2-3*".substring(0, n);
            String ends = n % 2 == 0 ? "7" : "";
            long word = n < 8 ? -1L << (8 * n) : 0;
            for (int k = 0; k < n; k++) {
                word |= (long) text.charAt(k) << (8 * k);
            }
            TwiceNoise x = new TwiceNoise();
            EDGE.is("13: how many there are", x.feed(word, n), n);
            EDGE.is("14: what stands above isn't looked at", Due.text(x, 0, ends), n / 2);
        }
        TwiceNoise x = new TwiceNoise();
        EDGE.is("13: a byte above 127", x.feed(0x31L | 0xB5L << 8, 2), 2);
        EDGE.is("Term 2: is the FAULT at itself", x.text(0), -11);
        x.feed(0x80L << 56 | 0x2B312B312B312BL << 8 | '1', 8);
        EDGE.is("13: the highest byte is the eighth", x.text(0), -17);
    }
}
