import java.util.function.Supplier;

/** Sentences whose boundary lies between two answers: at most, above, no fewer, a lesser DAY, the least of several. */
public final class BordersTest {
    private static final Edge EDGE = new Edge("borders");

    public static void main(String[] args) {
        numbersInTexts();
        openAtOnce();
        textsEnd();
        namesOfUses();
        factors();
        factorsWithoutDivisor();
        order();
        firstPoint();
        noPointBeyond();
        allAlike();
        wholeRow();
        sameRows();
        couldByDay();
        couldByNames();
        hands();
        bound();
        within();
        widths();
        saw();
        needs();
        linkDays();
        trialDays();
        leastRules();
        checkLeast();
        checkEachLeast();
        checkLength();
        EDGE.end();
    }

    private static void reads(String sentence, int use, String text, int due) {
        TwiceNoise x = new TwiceNoise();
        EDGE.is(sentence + ": " + text, Due.text(x, use, text), due);
    }

    private static void numbersInTexts() {
        String[] ahead = {"", "x+", "(", "-", "1?", "1?2:", "1<", "1&", "2*"};
        for (String a : ahead) {
            for (int digits = 1; digits <= 6; digits++) {
                TwiceNoise x = new TwiceNoise();
                String number = "987654".substring(0, digits);
                String end = a.equals("(") ? ")" : a.equals("1?") ? ":3" : "";
                int told = Due.text(x, 0, a + number + end);
                EDGE.is("Term 2: a NUMBER of 1 to 4 digits: " + a + number, told < 0 ? told : 0, digits <= 4 ? 0 : -10 - a.length() - 4);
            }
        }
        TwiceNoise x = new TwiceNoise();
        Due.text(x, 0, "9999");
        EDGE.is("Term 2: the greatest NUMBER", x.law(0, 0, 0, 0), 9999);
        Due.text(x, 0, "0000");
        EDGE.is("Term 2: the least NUMBER", x.law(0, 0, 0, 0), 0);
        Due.text(x, 0, "0007");
        EDGE.is("Term 2: digits 0 ahead", x.law(0, 0, 0, 0), 7);
        reads("Term 2: no NUMBER without digits", 0, "1+", -12);
        reads("Term 2: the fifth digit, though it is 0", 0, "00000", -14);
        reads("Term 2: a NAME ends a NUMBER: FAULT", 0, "1x", -11);
        reads("Term 2: a NUMBER behind a NAME: FAULT", 0, "x1", -11);
    }

    /** All rows of six of - and ( : the sixth is the FAULT; of five none is. */
    private static void openAtOnce() {
        for (int bits = 0; bits < 64; bits++) {
            StringBuilder opened = new StringBuilder();
            StringBuilder closed = new StringBuilder();
            for (int k = 0; k < 6; k++) {
                boolean bracket = (bits >> k & 1) == 1;
                opened.append(bracket ? '(' : '-');
                closed.append(bracket ? ")" : "");
            }
            reads("Term 2: at most 5 are open at once, not 6", 0, opened + "x" + closed, -15);
            String five = opened.substring(0, 5);
            int brackets = five.replace("-", "").length();
            reads("Term 2: 5 are open at once", 0, five + "x" + ")".repeat(brackets), 5 - brackets);
            reads("Term 2: behind them 5 more", 0, five + "x" + ")".repeat(brackets) + "+" + five + "1" + ")".repeat(brackets),
                11 - 2 * brackets);
            reads("Term 2: of 5 open none is closed", 0, five, -15);
        }
        reads("Term 2: - between two isn't open", 0, "(((((x-x-x-x-x-x-x)))))", 6);
        reads("Term 2: - ahead of a U ends with it", 0, "-x--x--x--x--x--x--x", 13);
        reads("Term 2: a ( that is closed isn't open", 0, "(x)+(x)+(x)+(x)+(x)+(x)+(x)", 6);
        reads("Term 2: in the fifth ( no - is left", 0, "(((((x+-1)))))", -17);
        reads("Term 2: in the fourth ( one - is left", 0, "((((x+-1))))", 2);
        reads("Term 2: in the fourth ( no second - is left", 0, "((((x+--1))))", -17);
        reads("Term 2: the - is open as long as its (", 0, "-(-(-1))", 3);
        reads("Term 2: the - is open as long as its (", 0, "-(-(--1))", -15);
    }

    /** What ends too early: how many there are; what goes on too long: the place of the first byte that can't stand. */
    private static void textsEnd() {
        String whole = "-(x<1&2=3|4>5?6+7-8:9*(m/2%3))";
        for (int n = 0; n < whole.length(); n++) {
            boolean ends = n == 0 || "-(<&=|>?:+*/%".indexOf(whole.charAt(n - 1)) >= 0 || n < whole.length();
            reads("Term 2: how many there are, if it ends too early", 0, whole.substring(0, n), ends ? -10 - n : 0);
        }
        reads("Term 2: a TEXT", 0, whole, 12);
        String signs = "+*/%<=>&|?:)";
        for (int k = 0; k < signs.length(); k++) {
            char c = signs.charAt(k);
            reads("Term 2: the first byte can't be", 0, c + "1", -10);
            reads("Term 2: nor behind (", 0, "(" + c + "1)", -11);
            reads("Term 2: nor behind another sign", 0, "x+" + c + "1", -12);
        }
        reads("Term 2: one of < = > in a C", 0, "1<2<3", -13);
        reads("Term 2: one of < = > in a C", 0, "1=2>3", -13);
        reads("Term 2: another C", 0, "1<2&1=2|1>2", 5);
        reads("Term 2: another C in ( )", 0, "(1<2)<3", 2);
        reads("Term 2: S ? S : S, no second ?", 0, "1?2?3:4:5", -13);
        reads("Term 2: S ? S : S, no third :", 0, "1?2:3:4", -15);
        reads("Term 2: S ? S : S, no : alone", 0, "1:2", -11);
        reads("Term 2: S ? S : S, each with & |", 0, "1&0|1?2&3|4:5|6&7", 7);
        TwiceNoise x = new TwiceNoise();
        Due.text(x, 0, "x|0?m|0:m&0");
        EDGE.is("Term 2: the second", x.law(0, 1, 5, 0), 1);
        EDGE.is("Term 2: the third", x.law(0, 0, 5, 0), 0);
        reads("Term 2: a T in ( )", 0, "(1?2:3)?(1?2:3):(1?2:3)", 4);
        reads("Term 2: no ) alone", 0, "1)", -11);
        reads("Term 2: no ) ahead of :", 0, "(1?2)", -14);
        reads("Term 2: no : in ( ) for a ? ahead of it", 0, "1?(2:3)", -14);
        reads("Term 2: a byte 0 is a byte", 0, "1\0", -11);
        reads("Term 2: a byte 0 is a byte", 0, "\0", -10);
        reads("Term 2: a byte 255 is a byte", 0, "1\u00ff", -11);
        reads("Term 2: no blanks", 0, " 1", -10);
        reads("Term 2: no blanks", 0, "1 +1", -11);
        reads("Term 2: no blanks", 0, "1 ", -11);
    }

    private static void namesOfUses() {
        String[] names = {"xmd", "md", "hpd"};
        for (int use = 0; use < 3; use++) {
            for (char c = 'A'; c <= 'z'; c++) {
                boolean named = names[use].indexOf(c) >= 0;
                boolean begins = c == '(' || c == '-';
                if (!begins) {
                    reads("Term 2: NAMES (others are the FAULT at themselves)", use, "7*" + c, named ? 1 : -12);
                }
            }
        }
    }

    private static TwiceNoise pair(int[] a, int[] b) {
        TwiceNoise x = new TwiceNoise();
        x.paper(1, 1, 1);
        Due.curve(x, 0, 0, a);
        Due.curve(x, 0, 0, b);
        return x;
    }

    private static int divisor(int a, int b) {
        return b == 0 ? a : divisor(b, a % b);
    }

    /** up and down no greater than f; 6 by 1 and 1 by 6 by none. */
    private static void factors() {
        for (int up = 1; up <= 7; up++) {
            for (int down = 1; down <= 7; down++) {
                int least = Math.max(up, down) / divisor(up, down);
                for (int turned = 1; turned >= -1; turned -= 2) {
                    TwiceNoise x = pair(new int[] {5, 5 + down, 5 - 3 * down}, new int[] {9, 9 + turned * up, 9 - turned * 3 * up});
                    for (int f = 1; f <= 5; f++) {
                        String call = "Term 3: a greatest FACTOR " + f + ": " + up + " by " + down;
                        EDGE.is(call, x.bent(0, 1, f, 0), least <= f ? 1 : 0);
                        EDGE.is(call + ", TURNED", x.bent(0, 1, f, 2), least > f ? Due.NONE : turned < 0 ? 1 : 0);
                        EDGE.is(call, x.pairs(f), least <= f ? 2 : 0);
                        EDGE.is(call, x.could(1, f), least <= f ? 1 : 0);
                        EDGE.is(call, x.sources(f), least <= f ? 1 : 3);
                        EDGE.is(call, x.hands(f), least <= f ? 1 : 0);
                        x.tell(-1);
                        x.tell(0);
                        EDGE.is(call, x.check(f), least <= f ? 0 : 2);
                    }
                }
            }
        }
    }

    /** 2 by 2 and 2 by 4 have a divisor of both: they are told as 1 by 1 and 1 by 2, once. */
    private static void factorsWithoutDivisor() {
        for (int up = 1; up <= 5; up++) {
            for (int down = 1; down <= 5; down++) {
                TwiceNoise x = pair(new int[] {0, 4 * down, -down}, new int[] {0, 4 * up, -up});
                int both = divisor(up, down);
                EDGE.is("Term 3: no divisor of both but 1: once", x.bent(0, 1, 5, 0), 1);
                EDGE.is("Term 3: no divisor of both but 1: up", x.bent(0, 1, 5, 3), up / both);
                EDGE.is("Term 3: no divisor of both but 1: down", x.bent(0, 1, 5, 4), down / both);
            }
        }
    }

    private static void first(String sentence, int[] a, int[] b, int... due) {
        TwiceNoise x = pair(a, b);
        for (int what = 0; what < due.length; what++) {
            EDGE.is("Term 3: BENDINGS are ordered by " + sentence + ", " + what, x.bent(0, 1, 5, what), due[what]);
        }
    }

    /** Two BENDINGS, told apart by one thing, while all that counts less stands the other way round. */
    private static void order() {
        // Back from POINT 2 they go 0, 1, 3; from POINT 3 on they go 0, -1, -3.
        first("BACK", new int[] {3, 1, 0, 10, 9, 7, 40}, new int[] {0, 5, 15}, 2, 0, 1, 5, 1, 3);
        first("TURNED", new int[] {0, -1, -3, 9, 0, 5, 15}, new int[] {0, 1, 3}, 2, 0, 0, 1, 5, 4);
        first("up", new int[] {0, 1, 3, 9, 0, 10, 30}, new int[] {0, 2, 6}, 2, 0, 0, 1, 5, 4);
        first("down", new int[] {0, 5, 15, 99, 0, 3, 9}, new int[] {0, 1, 3}, 2, 0, 0, 1, 3, 4);
        first("i", new int[] {0, 1, 3, 90, 0, 1, 3}, new int[] {0, 1, 3}, 2, 0, 0, 1, 1, 0);
    }

    /** b fits from each POINT of a on, as long as a has as many; BACK likewise. */
    private static void firstPoint() {
        int[] a = {1, 3, 9, 27, 81, 243, 729, 2187};
        for (int n = 3; n <= 8; n++) {
            for (int i = 0; i < 8; i++) {
                int[] on = new int[n];
                int[] back = new int[n];
                for (int j = 0; j < n; j++) {
                    on[j] = i + j < 8 ? a[i + j] : 5000 * j;
                    back[j] = i - j >= 0 ? a[i - j] : 5000 * j;
                }
                fits("Term 3: no more POINTS than stand in a from i on", pair(a, on), 0, i, i + n <= 8);
                fits("Term 3: BACK: from i down to 0", pair(a, back), 1, i, i - n + 1 >= 0);
            }
        }
    }

    private static void fits(String sentence, TwiceNoise x, int back, int i, boolean fits) {
        EDGE.is(sentence + ": " + i, x.bent(0, 1, 1, 0), fits ? 1 : 0);
        EDGE.is(sentence + ": BACK", x.bent(0, 1, 1, 1), fits ? back : Due.NONE);
        EDGE.is(sentence + ": i", x.bent(0, 1, 1, 5), fits ? i : Due.NONE);
    }

    /** These b would fit, if a POINT that is 0 stood ahead of a's first one or behind its last one. */
    private static void noPointBeyond() {
        int[][] rows = {{1, 2, 4}, {4, 2, 1}, {1, 2, 4, 8}, {8, 4, 2, 1}};
        int[][] fitting = {{0, 1, 2}, {2, 1, 0}, {0, 1, 2, 4}, {4, 2, 1, 0}};
        for (int[] a : rows) {
            for (int[] b : fitting) {
                TwiceNoise x = pair(a, b);
                EDGE.is("Term 3: a FIRST POINT i of a: how many", x.bent(0, 1, 5, 0), 0);
                EDGE.is("Term 3: a FIRST POINT i of a: which", x.bent(0, 1, 5, 5), Due.NONE);
                EDGE.is("24: nor COULD b come of a", x.could(1, 5), 0);
                EDGE.is("18: nor is a to b a pair", x.pairs(5), pair(b, a).bent(0, 1, 5, 0) > 0 ? 1 : 0);
            }
        }
    }

    private static void allAlike() {
        EDGE.is("Term 3: a's POINTS there are all alike", pair(new int[] {5, 5, 5}, new int[] {1, 1, 1}).bent(0, 1, 5, 0), 0);
        EDGE.is("Term 3: b's are, a's aren't", pair(new int[] {5, 5, 6}, new int[] {1, 1, 1}).bent(0, 1, 5, 0), 0);
        EDGE.is("Term 3: a's are, b's aren't", pair(new int[] {5, 5, 5}, new int[] {1, 1, 2}).bent(0, 1, 5, 0), 0);
        TwiceNoise x = pair(new int[] {5, 5, 5, 5, 9}, new int[] {1, 1, 1});
        EDGE.is("Term 3: a's POINTS there (as many as b has), though others are unlike", x.bent(0, 1, 5, 0), 0);
        TwiceNoise y = pair(new int[] {5, 5, 5, 5, 9}, new int[] {1, 1, 5});
        EDGE.is("Term 3: only the last is unlike", y.bent(0, 1, 1, 0), 1);
        EDGE.is("Term 3: only the last is unlike", y.bent(0, 1, 1, 5), 2);
        TwiceNoise z = pair(new int[] {5, 9, 5, 5, 5}, new int[] {5, 9, 5, 5, 5});
        EDGE.is("Term 3: what begins a row isn't unlike itself", z.bent(0, 1, 1, 0), 1);
    }

    /** Each POINT counts, the last too. */
    private static void wholeRow() {
        int[] a = new int[24];
        for (int j = 0; j < 24; j++) {
            a[j] = j * j * j % 101;
        }
        for (int changed = 0; changed < 24; changed++) {
            int[] b = a.clone();
            b[changed]++;
            TwiceNoise x = pair(a, b);
            EDGE.is("Term 3: for each j: " + changed, x.bent(0, 1, 5, 0), 0);
            EDGE.is("19: one place is unlike", x.prints(0, 1, 1), 1);
        }
        EDGE.is("Term 3: for each j", pair(a, a).bent(0, 1, 5, 0), 1);
    }

    private static void sameRows() {
        TwiceNoise x = pair(new int[] {0, 0, 1, 0, 0, 0, 1, 0, 0}, new int[] {0, 0, 1, 0, 0});
        // HAIRS of a: 1, -2, 1, 0, 1, -2, 1; of b: 1, -2, 1.
        EDGE.is("16: how many", x.same(0, 1, 0), 3);
        EDGE.is("16: of several that which is first in a", x.same(0, 1, 1), 1);
        EDGE.is("16: its first in b", x.same(0, 1, 2), 1);
        EDGE.is("16: of several that which is first in b", x.same(1, 0, 2), 1);
        TwiceNoise y = pair(new int[] {0, 0, 1}, new int[] {0, 0, 0, 0, 1});
        EDGE.is("16: one HAIR, the last of b", y.same(0, 1, 0), 1);
        EDGE.is("16: one HAIR, the last of b", y.same(0, 1, 2), 3);
        EDGE.is("16: one HAIR, the last of a", y.same(1, 0, 1), 3);
        // Behind its last POINT a CURVE has no HAIR, not even one of POINTS that are 0.
        TwiceNoise v = pair(new int[] {0, 0, 1}, new int[] {0, 0, 1, 0, 0, 0});
        EDGE.is("16: a row ends with its CURVE", v.same(0, 1, 0), 1);
        EDGE.is("16: a row ends with its CURVE", v.same(1, 0, 0), 1);
        TwiceNoise z = pair(new int[] {0, 0, 1}, new int[] {0, 0, 2});
        for (int what = 0; what < 3; what++) {
            EDGE.is("16: 0 HAIRS: 0, 0, 0", z.same(0, 1, what), 0);
        }
        // The longer row is later in a: of several only the longest count.
        TwiceNoise w = pair(new int[] {0, 0, 7, 0, 0, 3, 9}, new int[] {1, 1, 4, 10});
        EDGE.is("16: the longest row, though it is later", w.same(0, 1, 0), 2);
        EDGE.is("16: the longest row, though it is later", w.same(0, 1, 1), 4);
    }

    private static void couldByDay() {
        for (int first = 0; first <= 2; first++) {
            TwiceNoise x = new TwiceNoise();
            x.paper(499 + first, 1, 1);
            x.paper(500, 1, 1);
            Due.curve(x, 0, 0, 0, 1, 5);
            Due.curve(x, 0, 10, 0, 1, 5);
            EDGE.is("Term 3: a is in a PAPER of a lesser DAY (of one DAY: if a's number is less)", x.could(1, 1), first <= 1 ? 1 : 0);
            EDGE.is("Term 3: the other way", x.could(0, 1), first <= 1 ? 0 : 2);
            EDGE.is("25: a SOURCE could come of none", x.sources(1), first <= 1 ? 1 : 2);
        }
        TwiceNoise y = new TwiceNoise();
        y.paper(0, 1, 1);
        y.paper(999, 1, 1);
        Due.curve(y, 0, 10, 0, 1, 5);
        Due.curve(y, 0, 0, 0, 1, 5);
        EDGE.is("Term 3: from the first DAY to the last", y.could(0, 1), 2);
        EDGE.is("Term 3: none comes of itself", y.could(1, 1), 0);
        TwiceNoise z = new TwiceNoise();
        z.paper(3, 1, 1);
        Due.curve(z, 0, 0, 0, 1, 5);
        Due.curve(z, 0, 0, 0, 1, 5);
        EDGE.is("Term 3: of one PAPER", z.could(1, 1), 1);
        EDGE.is("Term 3: of one PAPER", z.could(0, 1), 0);
    }

    private static void couldByNames() {
        for (int one = 0; one < 8; one++) {
            for (int other = 0; other < 8; other++) {
                TwiceNoise x = new TwiceNoise();
                x.paper(1, 1 << one, 1);
                x.paper(2, 1 << other, 1);
                Due.curve(x, 0, 0, 0, 1, 5);
                Due.curve(x, 0, 10, 0, 1, 5);
                EDGE.is("Term 3: somebody signed both PAPERS", x.could(1, 1), one == other ? 1 : 0);
                EDGE.is("Term 3: HANDS", x.hands(1), one == other ? 1 << one : 0);
            }
        }
        TwiceNoise y = new TwiceNoise();
        y.paper(1, 127, 1);
        y.paper(2, 128, 1);
        Due.curve(y, 0, 0, 0, 1, 5);
        Due.curve(y, 0, 10, 0, 1, 5);
        EDGE.is("Term 3: all but one, and that one", y.could(1, 1), 0);
    }

    private static void hands() {
        TwiceNoise x = new TwiceNoise();
        x.paper(1, 255, 1);
        Due.curve(x, 0, 0, 0, 1, 5);
        EDGE.is("Term 3: HANDS of SOURCES alone: none", x.hands(1), 0);
        x.paper(2, 0b11000000, 1);
        Due.curve(x, 0, 10, 0, 1, 5);
        EDGE.is("Term 3: of several the least bits", x.hands(1), 0b01000000);
        x.paper(2, 0b10100000, 1);
        Due.curve(x, 0, 20, 0, 2, 10);
        EDGE.is("Term 3: by 1 the third is a SOURCE", x.hands(1), 0b01000000);
        EDGE.is("Term 3: the fewest, though the bits are more", x.hands(2), 0b10000000);
        x.paper(2, 0b01100000, 1);
        Due.curve(x, 0, 30, 0, 3, 15);
        EDGE.is("Term 3: of three pairs the least bits", x.hands(3), 0b01100000);
        handsOfAll();
    }

    private static void handsOfAll() {
        TwiceNoise x = new TwiceNoise();
        x.paper(1, 255, 1);
        Due.curve(x, 0, 0, 0, 1, 5);
        int due = 0;
        for (int name = 0; name < 8; name++) {
            x.paper(2, 1 << name, 1);
            x.make(100 * (name + 1), 0, 11, name, 3);
            due |= 1 << name;
            EDGE.is("Term 3: HANDS, one more NAME is needed", x.hands(1), due);
        }
        TwiceNoise y = new TwiceNoise();
        y.paper(5, 0b0011, 1);
        y.paper(4, 0b0010, 1);
        y.paper(3, 0b0001, 1);
        Due.curve(y, 0, 0, 0, 1, 5);
        Due.curve(y, 0, 10, 0, 1, 5);
        Due.curve(y, 0, 20, 7, 7, 1);
        EDGE.is("Term 3: of a PAPER of one of which it COULD come, not of another", y.hands(1), 0b0010);
        EDGE.is("Term 3: CURVE 0 is no SOURCE, if its DAY is later", y.sources(1), 0b110);
        TwiceNoise z = new TwiceNoise();
        z.paper(1, 0b01, 1);
        z.paper(1, 0b10, 1);
        z.paper(2, 0b11, 1);
        Due.curve(z, 0, 0, 0, 1, 5);
        Due.curve(z, 0, 10, 0, 2, 10);
        Due.curve(z, 0, 20, 0, 2, 10);
        EDGE.is("Term 3: HANDS by 1", z.hands(1), 0b10);
        EDGE.is("Term 3: HANDS by 2", z.hands(2), 0b01);
        EDGE.is("Term 3: HANDS by 1, asked again", z.hands(1), 0b10);
    }

    /** A SIGN is a HAIR above BOUND, or below it turned over: not one at it. */
    private static void bound() {
        for (int bound : new int[] {0, 1, 50, 9998, 9999}) {
            for (int off = -2; off <= 2; off++) {
                for (int side = -1; side <= 1; side += 2) {
                    for (int at = 1; at <= 4; at++) {
                        int hair = side * (bound + off);
                        TwiceNoise x = new TwiceNoise();
                        x.paper(7, 1, 1);
                        x.machine(2, 2, bound);
                        // One HAIR alone is unlike 0: from POINT at on it goes up.
                        int[] points = new int[6];
                        for (int j = at + 1; j < 6; j++) {
                            points[j] = hair * (j - at);
                        }
                        Due.curve(x, 0, 2, points);
                        boolean sign = Math.abs(hair) > bound;
                        EDGE.is("Term 4: HAIR " + hair + ", BOUND " + bound, x.sign(0), sign ? 1 : 2);
                        EDGE.is("22: as bits", x.unsigned(), sign ? 0 : 1);
                    }
                }
            }
        }
        for (int day = 0; day <= 999; day++) {
            TwiceNoise x = new TwiceNoise();
            x.paper(day, 1, 1);
            Due.curve(x, 0, 0, 0, 0, 0);
            EDGE.is("Term 2: BAD without: d % 30 = 7, DAY " + day, x.sign(0), day % 30 == 7 ? 2 : 0);
        }
        TwiceNoise x = new TwiceNoise();
        x.paper(7, 1, 1);
        x.machine(1, 2, 9999);
        Due.curve(x, 0, 0, 0, 0, 1);
        EDGE.is("Term 4: BOUND of its own MACHINE", x.sign(0), 1);
        Due.curve(x, 0, 0, 5, 5, 5);
        Due.curve(x, 0, 0, -9, -8, -7, -6);
        EDGE.is("Term 4: POINT 0 and the last have no HAIR", x.unsigned(), 0b110);
    }

    private static void within() {
        TwiceNoise x = new TwiceNoise();
        x.paper(1, 1, 1);
        Due.text(x, 0, "0");
        Due.curve(x, 0, 0, 0, 1, -1, 2, -2, 99999, -99999);
        int[] due = {1, 3, 5};
        for (int w = 0; w < 3; w++) {
            EDGE.is("20: w at most from LAW: " + w, x.worked(0, w, 0), due[w]);
        }
        EDGE.is("20: w at most from LAW: 99998", x.worked(0, 99998, 0), 5);
        EDGE.is("20: w at most from LAW: 99999", x.worked(0, 99999, 0), 7);
        EDGE.is("20: the greatest distance", x.worked(0, 0, 1), 99999);
        x.machine(0, 0, 2);
        EDGE.is("20: no multiples of 2: 1, -1, 99999, -99999", x.worked(0, 0, 2), 4);
        x.machine(0, 0, 99);
        EDGE.is("20: no multiples of 99: 0 is one", x.worked(0, 0, 2), 6);
        x.machine(0, 0, 1);
        EDGE.is("20: no multiples of 1", x.worked(0, 0, 2), 0);
        Due.text(x, 0, "x<3?0:(x<5?3-x:9999*x)");
        TwiceNoise y = new TwiceNoise();
        y.paper(1, 1, 1);
        Due.curve(y, 0, 0, 0, 10, 20);
        EDGE.is("Term 4: how far each POINT is from LAW there: as LAW is", y.worked(0, 0, 0), 3);
        EDGE.is("20: the greatest distance: 0", y.worked(0, 0, 1), 0);
    }

    private static void widths() {
        for (int width : new int[] {1, 2, 10, 9999}) {
            for (int times = -2; times <= 2; times++) {
                int edge = times * width;
                TwiceNoise x = pair(new int[] {edge, edge, edge - 1}, new int[] {edge + width - 1, edge + width, edge});
                EDGE.is("Term 1: PRINT: it by the WIDTH, downward", x.prints(0, 1, width), 2);
            }
        }
        TwiceNoise x = pair(new int[] {0, 0, 0}, new int[] {0, 0, 0, 9, 9});
        EDGE.is("19: of those places that both have", x.prints(0, 1, 1), 0);
        EDGE.is("19: of those places that both have", x.prints(1, 0, 1), 0);
    }

    private static void saw() {
        for (int name = 0; name < 8; name++) {
            TwiceNoise x = new TwiceNoise();
            x.paper(10, 1 << name, 1);
            x.paper(0, 255 - (1 << name), 1);
            x.paper(999, 255, 1);
            EDGE.is("27: PAPERS of a DAY or ahead: the DAY ahead of it", x.saw(name, 9), 0);
            EDGE.is("27: PAPERS of a DAY or ahead: that DAY", x.saw(name, 10), 1);
            EDGE.is("27: the last DAY but one", x.saw(name, 998), 1);
            EDGE.is("27: the last DAY", x.saw(name, 999), 5);
            EDGE.is("27: the first DAY, other NAMES", x.saw((name + 1) % 8, 0), 2);
        }
    }

    /** A PAPER STANDS as long as no fewer than NEED of those on which it RESTS STAND. */
    private static void needs() {
        for (int props = 0; props <= 11; props++) {
            for (int need = 0; need <= 11; need++) {
                TwiceNoise x = new TwiceNoise();
                for (int p = 0; p < 12; p++) {
                    x.paper(1, 1, 1);
                }
                for (int p = 0; p < props; p++) {
                    x.rests(11, p);
                }
                x.needs(11, need);
                for (int struck = 0; struck <= 11; struck++) {
                    int set = (1 << struck) - 1;
                    int left = Math.max(0, props - struck);
                    EDGE.is("Term 5: no fewer than its NEED: " + props + ", " + need + ", " + struck, x.fall(set),
                        left >= need ? set : set | 1 << 11);
                }
                EDGE.is("Term 5: it is struck", x.fall(1 << 11), 1 << 11);
            }
        }
        TwiceNoise y = new TwiceNoise();
        for (int p = 0; p < 12; p++) {
            y.paper(1, 1, 1);
            y.needs(p, p == 0 ? 0 : 1);
            y.rests(p, p - 1);
        }
        EDGE.is("30: the whole row falls", y.fall(1), 4095);
        EDGE.is("30: none is struck for good", y.fall(0), 0);
        EDGE.is("30: the last alone", y.fall(1 << 11), 1 << 11);
    }

    private static void linkDays() {
        TwiceNoise x = new TwiceNoise();
        x.paper(1, 1, 1);
        x.tries(0, 0, 0, false);
        x.link(0, 1, 60);
        EDGE.is("Term 5: so many DAYS behind", x.knows(1, 0, 1), 60);
        x.link(0, 2, 30);
        x.link(2, 1, 30);
        EDGE.is("Term 5: the least together: as many", x.knows(1, 0, 1), 60);
        x.link(0, 2, 29);
        EDGE.is("Term 5: the least together: one fewer", x.knows(1, 0, 1), 59);
        x.link(1, 3, 1);
        EDGE.is("Term 5: by way of another", x.knows(3, 0, 1), 60);
        x.link(4, 0, 1);
        EDGE.is("Term 5: one way", x.knows(4, 0, 1), Due.NONE);
        EDGE.is("Term 5: its own from its DAY on, not behind", x.knows(0, 0, 1), 0);
        TwiceNoise y = new TwiceNoise();
        y.paper(1, 1, 1);
        y.tries(0, 0, 10, false);
        y.link(0, 1, 1);
        y.link(1, 0, 1);
        Due.text(y, 2, "0");
        EDGE.is("Term 5: its own, though it isn't SAID", y.knows(0, 0, 1), 10);
        EDGE.is("Term 5: nobody else's, if it isn't SAID", y.knows(1, 0, 1), Due.NONE);
    }

    private static void trialDays() {
        TwiceNoise x = new TwiceNoise();
        x.paper(1, 1, 1);
        for (int day : new int[] {999, 0, 500, 500, 1}) {
            x.tries(0, 0, day, false);
        }
        int[] due = {0, 1, 500, 500, 999};
        for (int n = 1; n <= 5; n++) {
            EDGE.is("33: the first DAY on which it KNOWS of " + n, x.knows(0, 0, n), due[n - 1]);
        }
        EDGE.is("33: NONE: never of 6", x.knows(0, 0, 6), Due.NONE);
        x.tries(0, 0, 0, true);
        EDGE.is("33: a well one doesn't count", x.knows(0, 0, 6), Due.NONE);
        Due.text(x, 2, "d=500");
        x.link(0, 1, 2);
        EDGE.is("Term 5: SAID on the DAY of the TRIAL", x.knows(1, 0, 2), 502);
        EDGE.is("Term 5: SAID on the DAY of the TRIAL", x.knows(1, 0, 3), Due.NONE);
    }

    private static Supplier<TwiceNoise> ruled(int... costsAndBits) {
        return () -> {
            TwiceNoise x = new TwiceNoise();
            x.paper(1, 1, 1);
            for (int c = 0; c < 6; c++) {
                x.measure(0, 3);
            }
            for (int k = 0; k + 1 < costsAndBits.length; k += 2) {
                x.rule(costsAndBits[k], costsAndBits[k + 1]);
            }
            return x;
        };
    }

    private static void leastRules() {
        EDGE.is("35: at least n of them: just n", ruled(5, 0b11).get().rules(0b11, 2, 0), 5);
        EDGE.is("35: at least n of them: one fewer", ruled(5, 0b01).get().rules(0b11, 2, 0), Due.NONE);
        EDGE.is("35: more than n", ruled(5, 0b111).get().rules(0b111, 2, 0), 5);
        EDGE.is("35: others don't count", ruled(5, 0b111000).get().rules(0b001111, 2, 0), Due.NONE);
        EDGE.is("35: the least cost, though of more RULES", ruled(5, 0b11, 2, 0b01, 2, 0b10).get().rules(0b11, 2, 1), 0b110);
        EDGE.is("35: of alike cost the fewest", ruled(2, 0b01, 2, 0b10, 4, 0b11).get().rules(0b11, 2, 1), 0b100);
        EDGE.is("35: of alike cost the fewest, though of greater bits", ruled(1, 0b01, 1, 0b10, 2, 0b11).get().rules(0b11, 2, 1), 0b100);
        EDGE.is("35: of alike cost the fewest, met ahead", ruled(4, 0b11, 2, 0b01, 2, 0b10).get().rules(0b11, 2, 1), 0b001);
        EDGE.is("35: of alike cost two, not three", ruled(2, 0b011, 2, 0b100, 1, 0b001, 1, 0b010).get().rules(0b111, 3, 1), 0b0011);
        EDGE.is("35: then the least bits", ruled(3, 0b11, 3, 0b11, 3, 0b11).get().rules(0b11, 2, 1), 0b001);
        EDGE.is("35: then the least bits", ruled(1, 0b01, 1, 0b10, 1, 0b01, 1, 0b10).get().rules(0b11, 2, 1), 0b0011);
        EDGE.is("35: a CURVE shown twice counts once", ruled(1, 0b01, 1, 0b01).get().rules(0b11, 2, 0), Due.NONE);
        EDGE.is("35: none is added that isn't needed", ruled(1, 0b01, 1, 0b10).get().rules(0b11, 1, 1), 0b01);
    }

    /** check() asks for the CURVE of the least number, or -1. */
    private static void checkLeast() {
        TwiceNoise x = new TwiceNoise();
        x.paper(5, 1, 1);
        for (int c = 0; c < 4; c++) {
            Due.curve(x, 0, 0, 0, 1, 5);
        }
        int[][] told = {{-1, 0, 0, 0}, {-1, 0, 1, 0}, {-1, 0, 0, 2}, {0, 0, 0, 0}, {-1, -1, 0, 0}, {-2, 0, 0, 0}, {-1, 0, 0, 1}};
        int[] due = {0, 3, 4, 1, 2, 1, 4};
        for (int k = 0; k < told.length; k++) {
            for (int v : told[k]) {
                x.tell(v);
            }
            EDGE.is("44: the CURVE of the least number of which each COULD come", x.check(1), due[k]);
        }
    }

    /** The last CURVE comes of one other alone, each in its turn. */
    private static void checkEachLeast() {
        for (int k = 0; k < 23; k++) {
            TwiceNoise x = new TwiceNoise();
            x.paper(5, 1, 1);
            for (int c = 0; c < 23; c++) {
                Due.curve(x, 0, 0, 0, 7, 100 + c);
            }
            Due.curve(x, 0, 0, 50, 57, 150 + k);
            EDGE.is("24: it COULD come of " + k + " alone", x.could(23, 1), 1 << k);
            for (int told : new int[] {k, k + 1, -1}) {
                for (int c = 0; c < 23; c++) {
                    x.tell(-1);
                }
                x.tell(told);
                EDGE.is("44: the CURVE of the least number is " + k + ", not another one", x.check(1), told == k ? 0 : 24);
            }
        }
    }

    private static void checkLength() {
        TwiceNoise x = new TwiceNoise();
        x.paper(5, 1, 1);
        Due.curve(x, 0, 0, 0, 1, 5);
        Due.curve(x, 0, 0, 0, 1, 7);
        for (int many = 0; many <= 24; many++) {
            for (int k = 0; k < many; k++) {
                x.tell(-1);
            }
            EDGE.is("44: fewer than CURVES: 0, too; or stands for no CURVE", x.check(1), many <= 2 ? 0 : 3);
            EDGE.is("44: none do then", x.count(7), 0);
        }
    }
}
