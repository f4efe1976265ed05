/** Promises 13 to 15: the tape, texts, what they come to. */
public final class TextsTest {
    private static final Due DUE = new Due("texts");

    public static void main(String[] args) {
        feed();
        signs();
        faults();
        stays();
        law();
        without();
        DUE.end();
    }

    private static void feed() {
        TwiceNoise x = new TwiceNoise();
        DUE.is("13: n", x.feed(1, 0), Due.BEYOND);
        DUE.is("13: n", x.feed(1, 9), Due.BEYOND);
        DUE.is("13: n", x.feed(1, -1), Due.BEYOND);
        for (int k = 1; k <= 7; k++) {
            DUE.is("13: eight more", x.feed(0x3131313131313131L, 8), 8 * k);
        }
        DUE.is("13: FULL", x.feed(1, 1), Due.FULL);
        DUE.is("13: BEYOND ahead of FULL", x.feed(1, 9), Due.BEYOND);
        DUE.is("13: 56 stay", x.count(6), 56);
        x.text(0);
        x.feed(0x2B2B2B2B2B2B2B2BL, 8);
        DUE.is("13: not all of them would go", x.count(6), 8);
        for (int k = 0; k < 5; k++) {
            x.feed(0, 8);
        }
        DUE.is("13: 55", x.feed(0, 7), 55);
        DUE.is("13: FULL by one", x.feed(0, 2), Due.FULL);
        DUE.is("13: none of the two came", x.feed(0, 1), 56);
        x.text(0);
        // The lowest byte first: 'x' '*' '7', what stands above is not looked at.
        DUE.is("13: three", x.feed(0x7F372A78L, 3), 3);
        DUE.is("14: one sign", x.text(0), 1);
        DUE.is("15: x * 7", x.law(0, 6, 0, 0), 42);
        DUE.is("13: a word below 0", x.feed(-1, 8), 8);
        DUE.is("14: no such byte", x.text(0), -10);
    }

    private static void signs() {
        TwiceNoise x = new TwiceNoise();
        String[] texts = {"0", "9999", "x", "m", "d", "((((((1", "-1", "--1", "1--1", "1+2-3*4/5%6", "1<2", "1=2&3>4|5",
            "1?2:3", "(1?2:3)?(4?5:6):(7?8:9)", "((((5))))", "-(-(-x))", "-----x", "(((((x)))))", "-x-x-x-x-x-x-x"};
        int[] due = {0, 0, 0, 0, 0, -15, 1, 2, 2, 5, 1, 4, 1, 4, 0, 3, 5, 0, 7};
        for (int k = 0; k < texts.length; k++) {
            DUE.is("14: " + texts[k], Due.text(x, 0, texts[k]), due[k]);
            DUE.is("14: THE TAPE is empty then", x.count(6), 0);
        }
        String most = "1+1+1+1+1+1+1+1+1+1+1+1+1+1+1+1+1+1+1+1+1+1+1+1+1+1+1+99";
        DUE.is("14: 56 bytes", Due.text(x, 0, most), 27);
        DUE.is("15: 56 bytes", x.law(0, 0, 0, 0), 27 + 99);
    }

    private static void faults() {
        TwiceNoise x = new TwiceNoise();
        String[] texts = {"", "+", ")", "1)", "()", "(", "(1", "1+", "1?", "1?2", "1?2:", "1:2", "1?2?3:4", "1?2:3?4:5",
            "1?2:3:4", "1<2=3", "1<2&3<4<5", "12345", "1 ", " 1", "xx", "1x", "x1", "(1?2)", "(1?2:3?4:5)", "h", "p",
            "1+h", "------1", "((((((1))))))", "-(-(-(1", "(((((-1)))))", "1&&2", "1*/2", "1*+2", "(-1)-(-(-(-(-1))))",
            "-----(1)", "-(-(-1))+-(-(-1))", "(1))", "x?-:1", "\u00ff", "1\u00b1", "1\0", "(1\0)", "\0", "1\0001"};
        int[] due = {0, 0, 0, 1, 1, 1, 2, 2, 2, 3, 4, 1, 3, 5, 5, 3, 7, 4, 1, 0, 1, 1, 1, 4, 6, 0, 0, 2, 5, 5, 5, 5, 2, 2, 2,
            10, 5, -1, 3, 3, 0, 1, 1, 2, 0, 1};
        for (int k = 0; k < texts.length; k++) {
            int got = Due.text(x, 0, texts[k]);
            DUE.is("14: " + texts[k], due[k] < 0 ? Math.min(got, 0) : got, due[k] < 0 ? 0 : -10 - due[k]);
            DUE.is("14: THE TAPE is empty, too", x.count(6), 0);
        }
        String[] names = {"xmd", "md", "hpd"};
        for (int use = 0; use < 3; use++) {
            for (char c = 0; c < 256; c++) {
                boolean good = names[use].indexOf(c) >= 0 || c >= '0' && c <= '9';
                boolean begins = c == '-' || c == '(';
                DUE.is("14: byte " + (int) c + " for " + use, Due.text(new TwiceNoise(), use, "" + c), good ? 0 : begins ? -11 : -10);
            }
        }
        DUE.is("14: use", x.text(3), Due.BEYOND);
        DUE.is("14: a FAULT is no ERROR", x.told(1), 1);
    }

    private static void stays() {
        TwiceNoise x = new TwiceNoise();
        Due.text(x, 0, "x+1");
        DUE.is("14: FAULT", Due.text(x, 0, "x+"), -12);
        DUE.is("14: the one ahead stays", x.law(0, 5, 0, 0), 6);
        DUE.is("14: nothing on THE TAPE", x.text(0), -10);
        DUE.is("14: the one ahead stays", x.law(0, 5, 0, 0), 6);
        Due.feed(x, "x+2");
        DUE.is("14: use", x.text(-1), Due.BEYOND);
        DUE.is("14: THE TAPE stays", x.count(6), 3);
        DUE.is("14: in place of one ahead", x.text(0), 1);
        DUE.is("15: the new one", x.law(0, 5, 0, 0), 7);
        DUE.is("15: the other USES stay", x.law(1, 0, 7, 0), 1);
    }

    private static void law() {
        TwiceNoise x = new TwiceNoise();
        Object[][] due = {
            {"1+2*3-4", 3}, {"8/3*3", 6}, {"-7/2", -3}, {"-7%3", -1}, {"7/0", 0}, {"7%0", 0}, {"10-3-2", 5}, {"2*3%4", 2},
            {"1|0&0", 0}, {"0&0|1", 1}, {"5&7", 1}, {"0|8", 1}, {"5&0", 0}, {"1<2", 1}, {"2<1", 0}, {"2=2", 1}, {"2>2", 0},
            {"1+1=2&3<4", 1}, {"3?4:5", 4}, {"0?4:5", 5}, {"-1?4:5", 4}, {"1<2?7:8", 7}, {"(0?1:2)+3", 5}, {"0?1/0:6", 6},
            {"x", 2}, {"m", 3}, {"d", 4}, {"x*100+m*10+d", 234}, {"--x", 2}, {"-x*m", -6}, {"-(x+m)", -5}, {"x--m", 5},
            {"9999*9999*9999", 9999 * 9999 * 9999}, {"0-1/2", 0}, {"007", 7}, {"1-(2-(3-4))", -2}, {"2>1=1", Integer.MIN_VALUE},
        };
        for (Object[] d : due) {
            int told = Due.text(x, 0, (String) d[0]);
            int want = (Integer) d[1];
            if (want == Integer.MIN_VALUE) {
                DUE.is("15: " + d[0] + " is no TEXT", told < -9 ? 1 : 0, 1);
            } else {
                DUE.is("15: " + d[0], x.law(0, 2, 3, 4), want);
            }
        }
        Due.text(x, 0, "x/m");
        DUE.is("15: the least by -1 wraps", x.law(0, Integer.MIN_VALUE, -1, 0), Integer.MIN_VALUE);
        Due.text(x, 0, "x%m");
        DUE.is("15: the least by -1 leaves 0", x.law(0, Integer.MIN_VALUE, -1, 0), 0);
        Due.text(x, 0, "-x");
        DUE.is("15: as low as an ERROR", x.law(0, 1000001, 0, 0), -1000001);
        DUE.is("15: that is no ERROR", x.told(1), 0);
        Due.text(x, 1, "m*10+d");
        DUE.is("15: BAD has two NAMES", x.law(1, 4, 5, 6), 45);
        Due.text(x, 2, "h*100+p*10+d");
        DUE.is("15: SAID has three", x.law(2, 4, 5, 6), 456);
        DUE.is("15: use", x.law(3, 0, 0, 0), Due.BEYOND);
        DUE.is("15: use", x.law(-1, 0, 0, 0), Due.BEYOND);
    }

    private static void without() {
        TwiceNoise x = new TwiceNoise();
        DUE.is("15: 10 * x", x.law(0, 7, 1, 2), 70);
        DUE.is("15: it wraps", x.law(0, 1 << 30, 1, 2), 1073741824 * 10);
        DUE.is("15: d % 30 = 7", x.law(1, 9, 37, 0), 1);
        DUE.is("15: d % 30 = 7", x.law(1, 7, 36, 7), 0);
        DUE.is("15: d % 30 = 7, below 0", x.law(1, 7, -23, 7), 0);
        DUE.is("15: 1", x.law(2, 0, 0, 0), 1);
    }
}
