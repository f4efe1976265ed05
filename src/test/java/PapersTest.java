/** Promises 28 to 35: papers that rest on papers, houses, rules. */
public final class PapersTest {
    private static final Due DUE = new Due("papers");

    public static void main(String[] args) {
        rests();
        restsOnEach();
        needs();
        fall();
        link();
        tries();
        knows();
        knowsSaid();
        rule();
        rules();
        DUE.end();
    }

    private static TwiceNoise withPapers(int many) {
        TwiceNoise x = new TwiceNoise();
        for (int p = 0; p < many; p++) {
            x.paper(1, 1, 1);
        }
        return x;
    }

    private static void rests() {
        TwiceNoise x = withPapers(12);
        DUE.is("28: new", x.rests(11, 0), 1);
        DUE.is("28: not new", x.rests(11, 0), 0);
        DUE.is("28: another", x.rests(11, 10), 1);
        DUE.is("28: bits", x.paperIs(11, 4), 1025);
        DUE.is("28: on itself", x.rests(3, 3), Due.STATE);
        DUE.is("28: on a greater one", x.rests(3, 4), Due.STATE);
        DUE.is("28: PAPER", x.rests(12, 0), Due.BEYOND);
        DUE.is("28: PAPER", x.rests(-1, 0), Due.BEYOND);
        DUE.is("28: on", x.rests(3, 12), Due.BEYOND);
        DUE.is("28: on", x.rests(3, -1), Due.BEYOND);
        DUE.is("28: nothing was changed", x.paperIs(3, 4), 0);
        DUE.is("28: told", x.told(3), 2);
    }

    private static void restsOnEach() {
        TwiceNoise x = withPapers(12);
        for (int paper = 0; paper < 12; paper++) {
            for (int on = 0; on < paper; on++) {
                DUE.is("28: " + paper + " on " + on + ", new", x.rests(paper, on), 1);
                DUE.is("28: " + paper + " on " + on + ", not new", x.rests(paper, on), 0);
            }
            DUE.is("28: on all of a lesser number", x.paperIs(paper, 4), (1 << paper) - 1);
        }
    }

    private static void needs() {
        TwiceNoise x = withPapers(2);
        DUE.is("29: at first", x.needs(1, 11), 0);
        DUE.is("29: again", x.needs(1, 0), 11);
        DUE.is("29: n", x.needs(1, 12), Due.BEYOND);
        DUE.is("29: n", x.needs(1, -1), Due.BEYOND);
        DUE.is("29: PAPER", x.needs(2, 0), Due.BEYOND);
        DUE.is("29: PAPER", x.needs(-1, 0), Due.BEYOND);
        DUE.is("29: nothing was changed", x.needs(1, 1), 0);
    }

    private static void fall() {
        TwiceNoise x = withPapers(12);
        DUE.is("30: none", x.fall(0), 0);
        DUE.is("30: all struck", x.fall(4095), 4095);
        DUE.is("30: one struck", x.fall(2048), 2048);
        for (int p = 1; p < 12; p++) {
            x.rests(p, p - 1);
        }
        DUE.is("30: without NEED", x.fall(1), 1);
        for (int p = 1; p < 12; p++) {
            x.needs(p, 1);
        }
        DUE.is("30: a chain", x.fall(1), 4095);
        DUE.is("30: a chain from 5 on", x.fall(1 << 5), 4095 - 31);
        x.rests(6, 0);
        DUE.is("30: another prop holds", x.fall(1 << 5), 1 << 5);
        DUE.is("30: both props", x.fall(1 << 5 | 1), 4095);
        x.needs(0, 1);
        DUE.is("30: more NEED than props", x.fall(0), 4095);
        DUE.is("30: bits of no PAPERS", x.fall(4096), Due.BEYOND);
        DUE.is("30: bits of no PAPERS", x.fall(-1), Due.BEYOND);
        DUE.is("30: bits of no PAPERS", x.fall(Integer.MIN_VALUE), Due.BEYOND);
        DUE.is("30: no PAPERS", new TwiceNoise().fall(0), 0);
        DUE.is("30: no PAPERS", new TwiceNoise().fall(1), Due.BEYOND);
    }

    private static void link() {
        TwiceNoise x = new TwiceNoise();
        DUE.is("31: HOUSE", x.link(-1, 1, 1), Due.BEYOND);
        DUE.is("31: HOUSE", x.link(8, 1, 1), Due.BEYOND);
        DUE.is("31: other", x.link(0, -1, 1), Due.BEYOND);
        DUE.is("31: other", x.link(0, 8, 1), Due.BEYOND);
        DUE.is("31: alike", x.link(3, 3, 1), Due.BEYOND);
        DUE.is("31: DAYS", x.link(0, 1, 0), Due.BEYOND);
        DUE.is("31: DAYS", x.link(0, 1, 61), Due.BEYOND);
        for (int k = 1; k <= 20; k++) {
            DUE.is("31: how many", x.link(0, 7, k), k);
        }
        DUE.is("31: FULL", x.link(0, 1, 1), Due.FULL);
        DUE.is("31: BEYOND ahead of FULL", x.link(0, 0, 1), Due.BEYOND);
        DUE.is("31: 20 stay", x.count(2), 20);
    }

    private static void tries() {
        TwiceNoise x = withPapers(1);
        DUE.is("32: HOUSE", x.tries(-1, 0, 0, true), Due.BEYOND);
        DUE.is("32: HOUSE", x.tries(8, 0, 0, true), Due.BEYOND);
        DUE.is("32: PAPER", x.tries(0, 1, 0, true), Due.BEYOND);
        DUE.is("32: PAPER", x.tries(0, -1, 0, true), Due.BEYOND);
        DUE.is("32: DAY", x.tries(0, 0, -1, true), Due.BEYOND);
        DUE.is("32: DAY", x.tries(0, 0, 1000, true), Due.BEYOND);
        for (int k = 1; k <= 30; k++) {
            DUE.is("32: how many", x.tries(k % 8, 0, 999 - k, k % 3 == 0), k);
        }
        DUE.is("32: FULL", x.tries(0, 0, 0, false), Due.FULL);
        DUE.is("32: BEYOND ahead of FULL", x.tries(0, 1, 0, false), Due.BEYOND);
        DUE.is("32: those that failed", x.count(4), 20);
        DUE.is("33: the last of 20", x.knows(0, 0, 20), Due.NONE);
        DUE.is("33: its own: k 8, 16", x.knows(0, 0, 2), 991);
    }

    private static void knows() {
        TwiceNoise x = withPapers(2);
        x.link(0, 1, 60);
        x.link(1, 2, 60);
        x.link(0, 3, 10);
        x.link(3, 2, 20);
        x.link(0, 1, 25);
        x.link(2, 0, 1);
        for (int h = 4; h < 7; h++) {
            x.link(h, h + 1, 60);
        }
        x.link(2, 4, 60);
        x.tries(0, 0, 999, false);
        DUE.is("33: its own", x.knows(0, 0, 1), 999);
        DUE.is("33: the lesser of two LINKS", x.knows(1, 0, 1), 1024);
        DUE.is("33: the least together", x.knows(2, 0, 1), 1029);
        DUE.is("33: far", x.knows(7, 0, 1), 999 + 30 + 4 * 60);
        DUE.is("33: one way", x.knows(0, 0, 2), Due.NONE);
        x.tries(7, 0, 5, false);
        DUE.is("33: nothing comes back", x.knows(6, 0, 2), Due.NONE);
        DUE.is("33: in order of DAYS, not of TRIALS", x.knows(7, 0, 1), 5);
        DUE.is("33: the second", x.knows(7, 0, 2), 1269);
        x.tries(0, 0, 0, true);
        x.tries(0, 1, 0, false);
        DUE.is("33: well ones and other PAPERS don't count", x.knows(0, 0, 2), Due.NONE);
        DUE.is("33: another PAPER", x.knows(0, 1, 1), 0);
        x.tries(1, 0, 999, false);
        x.tries(1, 0, 999, false);
        DUE.is("33: two of one DAY", x.knows(1, 0, 2), 999);
        DUE.is("33: then the one that was told", x.knows(1, 0, 3), 1024);
        DUE.is("33: HOUSE", x.knows(8, 0, 1), Due.BEYOND);
        DUE.is("33: HOUSE", x.knows(-1, 0, 1), Due.BEYOND);
        DUE.is("33: PAPER", x.knows(0, 2, 1), Due.BEYOND);
        DUE.is("33: PAPER", x.knows(0, -1, 1), Due.BEYOND);
        DUE.is("33: n", x.knows(0, 0, 0), Due.BEYOND);
        DUE.is("33: n", x.knows(0, 0, 31), Due.BEYOND);
        DUE.is("33: n", x.knows(0, 0, 30), Due.NONE);
    }

    private static void knowsSaid() {
        TwiceNoise x = withPapers(2);
        x.link(0, 1, 2);
        x.link(1, 2, 3);
        x.tries(0, 0, 10, false);
        x.tries(0, 0, 11, false);
        x.tries(1, 1, 12, false);
        Due.text(x, 2, "h=0&d=11&p=0");
        DUE.is("33: SAID by the HOUSE that failed, on the DAY of the TRIAL", x.knows(2, 0, 1), 16);
        DUE.is("33: not SAID", x.knows(2, 0, 2), Due.NONE);
        DUE.is("33: not SAID of PAPER 1", x.knows(2, 1, 1), Due.NONE);
        DUE.is("33: its own, SAID or not", x.knows(0, 0, 1), 10);
        Due.text(x, 2, "p-1");
        DUE.is("33: what is not 0 is true", x.knows(2, 0, 2), 16);
        DUE.is("33: 0 isn't", x.knows(2, 1, 1), Due.NONE);
    }

    private static void rule() {
        TwiceNoise x = withPapers(1);
        DUE.is("34: no CURVES", x.rule(1, 1), Due.BEYOND);
        DUE.is("34: none shown", x.rule(99, 0), 0);
        x.measure(0, 3);
        x.measure(0, 3);
        DUE.is("34: two", x.rule(1, 3), 1);
        DUE.is("34: bits", x.rule(1, 4), Due.BEYOND);
        DUE.is("34: bits", x.rule(1, -1), Due.BEYOND);
        DUE.is("34: cost", x.rule(0, 1), Due.BEYOND);
        DUE.is("34: cost", x.rule(100, 1), Due.BEYOND);
        for (int r = 2; r < 8; r++) {
            DUE.is("34: number", x.rule(r, 1), r);
        }
        DUE.is("34: FULL", x.rule(1, 1), Due.FULL);
        DUE.is("34: BEYOND ahead of FULL", x.rule(0, 1), Due.BEYOND);
        DUE.is("34: 8 stay", x.count(5), 8);
    }

    private static void both(TwiceNoise x, String what, int curves, int n, int cost, int bits) {
        DUE.is("35: " + what + ", cost", x.rules(curves, n, 0), cost);
        DUE.is("35: " + what + ", RULES", x.rules(curves, n, 1), bits);
    }

    private static void rules() {
        TwiceNoise x = withPapers(1);
        for (int c = 0; c < 24; c++) {
            x.measure(0, 3);
        }
        DUE.is("35: no RULES", x.rules(1, 1, 0), Due.NONE);
        x.rule(2, 0b0011);
        x.rule(2, 0b0110);
        x.rule(4, 0b1011);
        x.rule(4, 0b0111);
        x.rule(99, (1 << 24) - 1);
        both(x, "the least cost", 0b0001, 1, 2, 1);
        both(x, "of alike cost the least bits", 0b0010, 1, 2, 1);
        both(x, "of alike cost the fewest", 0b0111, 3, 4, 8);
        both(x, "RULES together", 0b1111, 4, 6, 6);
        both(x, "n of them alone", 0b1111, 2, 2, 1);
        both(x, "all", (1 << 24) - 1, 24, 99, 16);
        both(x, "the least bits of alike ones", 0b1100, 2, 6, 6);
        DUE.is("35: more than there are", x.rules(0b11, 3, 0), Due.NONE);
        DUE.is("35: of none", x.rules(0, 1, 1), Due.NONE);
        DUE.is("35: CURVES", x.rules(1 << 24, 1, 0), Due.BEYOND);
        DUE.is("35: CURVES", x.rules(-1, 1, 0), Due.BEYOND);
        DUE.is("35: n", x.rules(1, 0, 0), Due.BEYOND);
        DUE.is("35: n", x.rules(1, 25, 0), Due.BEYOND);
        DUE.is("35: what", x.rules(1, 1, 2), Due.BEYOND);
        DUE.is("35: what", x.rules(1, 1, -1), Due.BEYOND);
    }
}
