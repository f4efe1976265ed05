import java.util.function.Supplier;

/** Empty: no PAPERS, CURVES, TRIALS, LINKS, RULES, bytes, numbers that wait, IMAGE, TRACE, SHEET, bits. */
public final class EmptyTest {
    private static final Edge EDGE = new Edge("empty");
    private static final Supplier<TwiceNoise> NEW = TwiceNoise::new;
    private static final Supplier<TwiceNoise> PAPER = Edge.then(NEW, x -> x.paper(7, 1, 1));

    public static void main(String[] args) {
        noPapers();
        noCurves();
        noTrials();
        noLinks();
        noRules();
        noBytes();
        noneWait();
        noImage();
        emptyImage();
        noTrace();
        missingSheet();
        sheetOfNoNumbers();
        sheetAnew();
        noBits();
        noText();
        EDGE.end();
    }

    private static void noPapers() {
        EDGE.is("1: no PAPERS", new TwiceNoise().count(0), 0);
        EDGE.refuses("5: no PAPERS", NEW, Due.BEYOND, x -> x.paperIs(0, 0));
        EDGE.refuses("6: no PAPERS", Edge.then(NEW, x -> x.sheet(0, 8, 3)), Due.BEYOND, x -> x.curve(0, 0, 0, 0, 3));
        EDGE.refuses("7: no PAPERS", NEW, Due.BEYOND, x -> x.measure(0, 3));
        EDGE.refuses("8: no PAPERS", NEW, Due.BEYOND, x -> x.make(0, 0, 11, 0, 3));
        EDGE.refuses("28: no PAPERS", NEW, Due.BEYOND, x -> x.rests(0, 0));
        EDGE.refuses("28: no other PAPER", PAPER, Due.BEYOND, x -> x.rests(0, 1));
        EDGE.refuses("28: no such PAPER", PAPER, Due.BEYOND, x -> x.rests(1, 0));
        EDGE.refuses("29: no PAPERS", NEW, Due.BEYOND, x -> x.needs(0, 0));
        EDGE.refuses("30: no PAPERS", NEW, Due.BEYOND, x -> x.fall(1));
        EDGE.is("30: of no PAPERS none falls", new TwiceNoise().fall(0), 0);
        EDGE.refuses("32: no PAPERS", NEW, Due.BEYOND, x -> x.tries(0, 0, 0, false));
        EDGE.refuses("33: no PAPERS", NEW, Due.BEYOND, x -> x.knows(0, 0, 1));
        for (int name = 0; name < 8; name++) {
            EDGE.is("27: no PAPERS", new TwiceNoise().saw(name, 999), 0);
        }
        TwiceNoise x = PAPER.get();
        EDGE.is("27: none that the NAME signed", x.saw(1, 999), 0);
        EDGE.is("5: RESTS on none", x.paperIs(0, 4), 0);
        EDGE.is("5: NEED 0 at first", x.paperIs(0, 3), 0);
        EDGE.is("5: has no CURVES", x.paperIs(0, 5), 0);
        EDGE.is("Term 5: what RESTS on none STANDS, of NEED 0", x.fall(0), 0);
        x.needs(0, 1);
        EDGE.is("Term 5: what RESTS on none doesn't STAND, of NEED 1", x.fall(0), 1);
    }

    private static void noCurves() {
        EDGE.is("1: no CURVES", PAPER.get().count(1), 0);
        EDGE.is("45: POINTS of none", PAPER.get().count(9), 0);
        EDGE.refuses("8: no CURVES", PAPER, Due.BEYOND, x -> x.make(0, 0, 11, 0, 3));
        EDGE.refuses("9: no CURVES", PAPER, Due.BEYOND, x -> x.curveIs(0, 0));
        EDGE.refuses("10: no CURVES", PAPER, Due.BEYOND, x -> x.as(0, 0));
        EDGE.refuses("11: no CURVES", PAPER, Due.BEYOND, x -> x.point(0, 0));
        EDGE.refuses("12: no CURVES", PAPER, Due.BEYOND, x -> x.hair(0, 1));
        EDGE.refuses("16: no CURVES", PAPER, Due.BEYOND, x -> x.same(0, 1, 0));
        EDGE.refuses("17: no CURVES", PAPER, Due.BEYOND, x -> x.bent(0, 1, 1, 0));
        EDGE.refuses("19: no CURVES", PAPER, Due.BEYOND, x -> x.prints(0, 1, 1));
        EDGE.refuses("20: no CURVES", PAPER, Due.BEYOND, x -> x.worked(0, 0, 0));
        EDGE.refuses("21: no CURVES", PAPER, Due.BEYOND, x -> x.sign(0));
        EDGE.refuses("24: no CURVES", PAPER, Due.BEYOND, x -> x.could(0, 1));
        EDGE.refuses("34: no CURVES", PAPER, Due.BEYOND, x -> x.rule(1, 1));
        EDGE.refuses("35: no CURVES", PAPER, Due.BEYOND, x -> x.rules(1, 1, 0));
        EDGE.refuses("36: no CURVES", PAPER, Due.BEYOND, x -> x.voice(0, 0, 0));
        for (int f = 1; f <= 5; f++) {
            EDGE.is("18: no CURVES", PAPER.get().pairs(f), 0);
            EDGE.is("25: no CURVES", PAPER.get().sources(f), 0);
            EDGE.is("26: no CURVES", PAPER.get().hands(f), 0);
            EDGE.is("44: no CURVES, none wait", PAPER.get().check(f), 0);
        }
        EDGE.is("22: no CURVES", PAPER.get().unsigned(), 0);
        TwiceNoise x = PAPER.get();
        x.tell(-1);
        EDGE.is("44: the first stands for no CURVE", x.check(1), 1);
    }

    private static void noTrials() {
        EDGE.is("1: no TRIALS", PAPER.get().count(3), 0);
        EDGE.is("45: of these those that failed: none", PAPER.get().count(4), 0);
        EDGE.refuses("33: NONE: never, of no TRIALS", PAPER, Due.NONE, x -> x.knows(0, 0, 1));
        Supplier<TwiceNoise> well = Edge.then(PAPER, x -> x.tries(0, 0, 5, true));
        EDGE.refuses("33: NONE: never, of none that failed", well, Due.NONE, x -> x.knows(0, 0, 1));
        EDGE.is("45: a TRIAL", well.get().count(3), 1);
        EDGE.is("45: of these those that failed: none", well.get().count(4), 0);
    }

    private static void noLinks() {
        EDGE.is("1: no LINKS", PAPER.get().count(2), 0);
        Supplier<TwiceNoise> failed = Edge.then(PAPER, x -> x.tries(0, 0, 0, false));
        EDGE.is("33: its own, from its DAY on", failed.get().knows(0, 0, 1), 0);
        for (int house = 1; house < 8; house++) {
            int h = house;
            EDGE.refuses("33: NONE: never, without LINKS", failed, Due.NONE, x -> x.knows(h, 0, 1));
        }
    }

    private static void noRules() {
        Supplier<TwiceNoise> one = Edge.then(PAPER, x -> x.measure(0, 3));
        EDGE.is("1: no RULES", one.get().count(5), 0);
        EDGE.refuses("35: NONE: by none, without RULES", one, Due.NONE, x -> x.rules(1, 1, 0));
        EDGE.refuses("35: NONE: by none, without RULES", one, Due.NONE, x -> x.rules(1, 1, 1));
    }

    private static void noBytes() {
        EDGE.is("1: THE TAPE is empty", new TwiceNoise().count(6), 0);
        for (int use = 0; use < 3; use++) {
            TwiceNoise x = new TwiceNoise();
            Due.text(x, use, "9");
            EDGE.is("Term 2: FAULT, how many there are: 0", x.text(use), -10);
            EDGE.is("14: the one ahead stays", x.law(use, 1, 1, 1), 9);
            EDGE.is("14: a FAULT is no ERROR", Edge.told(x).stream().mapToInt(k -> k).sum(), 0);
            EDGE.is("14: none ahead stays none", Edge.then(NEW, y -> y.text(0)).get().law(0, 4, 0, 0), 40);
        }
    }

    private static void noneWait() {
        TwiceNoise x = Edge.kinds();
        EDGE.is("45: none wait", x.count(7), 0);
        for (int f = 1; f <= 5; f++) {
            EDGE.is("44: none wait: 0, too, these are right", x.check(f), 0);
        }
        EDGE.refuses("44: BEYOND where none wait", Edge::kinds, Due.BEYOND, y -> y.check(0));
    }

    private static void noImage() {
        EDGE.refuses("42: NONE: there is none", NEW, Due.NONE, TwiceNoise::restore);
        EDGE.refuses("42: NONE: there is none", PAPER, Due.NONE, TwiceNoise::restore);
        EDGE.is("41: the first", PAPER.get().image(), 1);
    }

    private static void emptyImage() {
        Supplier<TwiceNoise> restored = () -> {
            TwiceNoise x = new TwiceNoise();
            x.image();
            x.paper(9, 9, 9);
            x.machine(2, 0, 9);
            x.machine(2, 1, 9);
            x.machine(2, 2, 9);
            x.draws(99);
            x.measure(2, 5);
            x.measure(2, 4);
            x.rule(3, 1);
            x.link(1, 2, 3);
            x.tries(1, 0, 3, false);
            for (int use = 0; use < 3; use++) {
                Due.text(x, use, "5");
            }
            x.tell(3);
            x.feed(7, 1);
            EDGE.is("42: how many CURVES there are: none", x.restore(), 0);
            return x;
        };
        EDGE.is("42: an IMAGE of a new object", Seen.of(restored).equals(Seen.of(Edge.then(NEW, TwiceNoise::image))) ? 1 : 0, 1);
        EDGE.is("42: the next PAPER is 0 again", restored.get().paper(1, 1, 1), 0);
        TwiceNoise x = new TwiceNoise();
        x.paper(1, 1, 1);
        x.image();
        x.paper(1, 1, 1);
        x.rests(1, 0);
        x.needs(1, 5);
        x.restore();
        x.paper(1, 1, 1);
        EDGE.is("Term 5: NEED 0 at first, where a PAPER was before", x.paperIs(1, 3), 0);
        EDGE.is("5: RESTS on none, where a PAPER was before", x.paperIs(1, 4), 0);
    }

    private static void noTrace() {
        for (int i : new int[] {Integer.MIN_VALUE, -1, 0, 1, 29, 30, Integer.MAX_VALUE}) {
            EDGE.refuses("37: NONE: there is none such, at first: " + i, PAPER, Due.NONE, x -> x.trace(i));
        }
        EDGE.is("45: no BODIES in THE TRACE", PAPER.get().count(8), 0);
    }

    private static void missingSheet() {
        for (int sheet = 0; sheet < 4; sheet++) {
            int s = sheet;
            int other = (s + 1) % 4;
            EDGE.refuses("Term 7: missing (as at first): curve", PAPER, Due.NONE, x -> x.curve(0, 0, s, 0, 3));
            EDGE.refuses("Term 7: missing (as at first): put", PAPER, Due.NONE, x -> x.put(s, 0, 1));
            EDGE.refuses("Term 7: missing (as at first): move", PAPER, Due.NONE, x -> x.move(s, 0, s, 0, 0));
            Supplier<TwiceNoise> alone = Edge.then(PAPER, x -> x.sheet(other, 32, 24));
            EDGE.refuses("40: the one is missing", alone, Due.NONE, x -> x.move(s, 0, other, 0, 0));
            EDGE.refuses("40: the other one is missing", alone, Due.NONE, x -> x.move(other, 0, s, 0, 0));
            Supplier<TwiceNoise> gone = Edge.then(Edge::sheeted, x -> x.sheet(s, 0, 24));
            EDGE.refuses("38: 0: it is missing: curve", gone, Due.NONE, x -> x.curve(0, 0, s, 0, 3));
            EDGE.refuses("38: 0: it is missing: put", gone, Due.NONE, x -> x.put(s, 0, 1));
            EDGE.refuses("38: 0: it is missing: move", gone, Due.NONE, x -> x.move(s, 0, other, 0, 1));
            EDGE.is("38: a missing one may be missing again: 1", gone.get().sheet(s, 0, -1), 1);
            EDGE.is("38: the others stay", gone.get().put(other, 23, 1), 1);
        }
    }

    private static void sheetOfNoNumbers() {
        Supplier<TwiceNoise> none = Edge.then(Edge::sheeted, x -> x.sheet(0, 32, 0));
        EDGE.is("38: 0 numbers: 1", Edge.sheeted().sheet(0, 32, 0), 1);
        EDGE.refuses("39: no such number (it isn't missing)", none, Due.BEYOND, x -> x.put(0, 0, 1));
        EDGE.refuses("6: a number doesn't stand there", none, Due.BEYOND, x -> x.curve(0, 0, 0, 0, 3));
        EDGE.refuses("40: one number of none", none, Due.BEYOND, x -> x.move(0, 0, 1, 0, 1));
        EDGE.refuses("40: one number to none", none, Due.BEYOND, x -> x.move(1, 0, 0, 0, 1));
        EDGE.is("40: no numbers of none: 0", none.get().move(0, 0, 1, 24, 0), 0);
        EDGE.is("40: no numbers to none: 0", none.get().move(1, 24, 0, 0, 0), 0);
        EDGE.is("40: no numbers, of itself: 0", none.get().move(0, 0, 0, 0, 0), 0);
    }

    /** A SHEET has n numbers, all 0, whatever it was before. */
    private static void sheetAnew() {
        for (int bits : new int[] {8, 16, 32}) {
            for (int n : new int[] {3, 23, 24}) {
                for (int before = 0; before < 3; before++) {
                    TwiceNoise x = Edge.sheeted();
                    for (int i = 0; i < 24; i++) {
                        x.put(1, i, 77);
                    }
                    if (before == 1) {
                        x.sheet(1, 0, 0);
                    } else if (before == 2) {
                        x.sheet(1, 8, 0);
                    }
                    EDGE.is("38: 1", x.sheet(1, bits, n), 1);
                    x.curve(0, 0, 1, 0, n);
                    for (int j = 0; j < n; j++) {
                        EDGE.is("38: n numbers, all 0: number " + j, x.point(0, j), 0);
                    }
                    EDGE.is("38: no more than n", x.put(1, n, 1), Due.BEYOND);
                }
            }
        }
    }

    private static void noBits() {
        EDGE.refuses("Term 1: NAMES, one at least", NEW, Due.BEYOND, x -> x.paper(1, 0, 1));
        EDGE.is("30: a set of no bits", Edge.kinds().fall(0), 0);
        TwiceNoise x = Edge.kinds();
        EDGE.is("34: a RULE that shows no CURVES", x.rule(1, 0), 0);
        EDGE.is("45: it is one", x.count(5), 1);
        EDGE.is("34: no bits are bits of no CURVES in an object without CURVES, too", PAPER.get().rule(1, 0), 0);
        Supplier<TwiceNoise> idle = Edge.then(Edge::kinds, y -> y.rule(1, 0));
        EDGE.refuses("35: NONE: by none, though a RULE is there", idle, Due.NONE, y -> y.rules(255, 1, 0));
        EDGE.refuses("35: NONE: of no CURVES none is shown", Edge::shown, Due.NONE, y -> y.rules(0, 1, 0));
        EDGE.refuses("35: NONE: of no CURVES none is shown", Edge::shown, Due.NONE, y -> y.rules(0, 24, 1));
    }

    /** Without a TEXT each USE comes to what Terms say. */
    private static void noText() {
        TwiceNoise x = new TwiceNoise();
        for (int v : new int[] {Integer.MIN_VALUE, -23, -1, 0, 6, 7, 8, 36, 37, 38, 999, Integer.MAX_VALUE}) {
            EDGE.is("Term 2: LAW without: 10 * x", x.law(0, v, 3, 7), 10 * v);
            EDGE.is("Term 2: BAD without: d % 30 = 7", x.law(1, 7, v, 7), v == 7 || v == 37 || v == Integer.MAX_VALUE ? 1 : 0);
            EDGE.is("Term 2: SAID without: 1", x.law(2, v, v, v), 1);
        }
    }
}
