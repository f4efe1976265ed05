import java.util.function.Supplier;

/**
 * A refused call: each ERROR in the order in which the promise asks them, with two at fault at once; and that the call
 * changes nothing but what told() tells, or what the promise says of it.
 */
public final class RefusedTest {
    private static final Edge EDGE = new Edge("refused");
    private static final Supplier<TwiceNoise> NEW = TwiceNoise::new;
    private static final Supplier<TwiceNoise> RICH = Edge::rich;
    private static final Supplier<TwiceNoise> FULL = Edge::full;

    public static void main(String[] args) {
        numbers();
        paper();
        curve();
        measure();
        make();
        as();
        feed();
        text();
        bent();
        rests();
        linkAndTries();
        knows();
        ruleAndRules();
        voice();
        trace();
        sheet();
        put();
        move();
        images();
        tellAndCheck();
        told();
        EDGE.end();
    }

    /** LOW is -1000000, and each ERROR so much less. */
    private static void numbers() {
        EDGE.is("LOW - 1 BEYOND", NEW.get().pairs(0), -1000001);
        EDGE.is("LOW - 2 NONE", NEW.get().restore(), -1000002);
        EDGE.is("LOW - 3 STATE", Edge.rich().rests(0, 0), -1000003);
        EDGE.is("LOW - 4 FULL", Edge.full().tell(0), -1000004);
        EDGE.is("LOW - 5 KIND", Edge.kinds().as(0, 1), -1000005);
        EDGE.is("LOW - 6 PARTED", Edge.rich().voice(3, 3, 1), -1000006);
        EDGE.is("in longs likewise", NEW.get().honest(0, 1, 1, 1), -1000001L);
    }

    private static void paper() {
        EDGE.refuses("4: BEYOND of the DAY ahead of FULL", FULL, Due.BEYOND, x -> x.paper(1000, 1, 1));
        EDGE.refuses("4: BEYOND of NAMES ahead of FULL", FULL, Due.BEYOND, x -> x.paper(1, 0, 1));
        EDGE.refuses("4: BEYOND of the WIDTH ahead of FULL", FULL, Due.BEYOND, x -> x.paper(1, 1, 100));
        EDGE.refuses("4: FULL", FULL, Due.FULL, x -> x.paper(1, 1, 1));
        EDGE.is("4: told as asked", Edge.then(FULL, x -> x.paper(1000, 0, 0)).get().told(4), 0);
    }

    private static void curve() {
        Supplier<TwiceNoise> noPoint = Edge.then(FULL, x -> x.put(0, 4, 100000));
        Supplier<TwiceNoise> noPointYet = Edge.then(RICH, x -> x.put(2, 4, 100000));
        // RICH: SHEET 3 is missing; FULL: SHEETS 1 .. 3 are.
        EDGE.refuses("6: BEYOND of KIND ahead of NONE", RICH, Due.BEYOND, x -> x.curve(8, 0, 3, 0, 3));
        EDGE.refuses("6: BEYOND of the PAPER ahead of NONE", RICH, Due.BEYOND, x -> x.curve(0, 30, 3, 0, 3));
        EDGE.refuses("6: BEYOND of the MACHINE ahead of NONE", RICH, Due.BEYOND, x -> x.curve(0, 4, 3, 0, 3));
        EDGE.refuses("6: BEYOND of n ahead of NONE", RICH, Due.BEYOND, x -> x.curve(0, 0, 3, 0, 2));
        EDGE.refuses("6: BEYOND of n ahead of NONE", RICH, Due.BEYOND, x -> x.curve(0, 0, 3, 0, 25));
        EDGE.refuses("6: NONE ahead of BEYOND of i", RICH, Due.NONE, x -> x.curve(0, 0, 3, -1, 3));
        EDGE.refuses("6: NONE ahead of BEYOND of i", RICH, Due.NONE, x -> x.curve(0, 0, 3, 24, 3));
        EDGE.refuses("6: NONE ahead of FULL", FULL, Due.NONE, x -> x.curve(0, 0, 1, 0, 3));
        EDGE.refuses("6: BEYOND of KIND ahead of FULL", FULL, Due.BEYOND, x -> x.curve(-1, 0, 0, 0, 3));
        EDGE.refuses("6: BEYOND of the PAPER ahead of FULL", FULL, Due.BEYOND, x -> x.curve(0, 120, 0, 0, 3));
        EDGE.refuses("6: BEYOND of the MACHINE ahead of FULL", FULL, Due.BEYOND, x -> x.curve(0, 9, 0, 0, 3));
        EDGE.refuses("6: BEYOND of the SHEET ahead of FULL", FULL, Due.BEYOND, x -> x.curve(0, 0, 4, 0, 3));
        EDGE.refuses("6: BEYOND of n ahead of FULL", FULL, Due.BEYOND, x -> x.curve(0, 0, 0, 0, 25));
        EDGE.refuses("6: BEYOND, a number doesn't stand there, ahead of FULL", FULL, Due.BEYOND, x -> x.curve(0, 0, 0, 22, 3));
        EDGE.refuses("6: BEYOND, it is no POINT", noPointYet, Due.BEYOND, x -> x.curve(0, 0, 2, 2, 3));
        EDGE.is("6: BEYOND, it is no POINT, ahead of FULL", noPoint.get().curve(0, 0, 0, 2, 3), Due.BEYOND);
        EDGE.refuses("6: FULL", FULL, Due.FULL, x -> x.curve(0, 0, 0, 21, 3));
    }

    private static void measure() {
        EDGE.refuses("7: BEYOND of the PAPER ahead of FULL", FULL, Due.BEYOND, x -> x.measure(120, 3));
        EDGE.refuses("7: BEYOND of the MACHINE ahead of FULL", FULL, Due.BEYOND, x -> x.measure(4, 3));
        EDGE.refuses("7: BEYOND of n ahead of FULL", FULL, Due.BEYOND, x -> x.measure(0, 2));
        EDGE.refuses("7: BEYOND: nothing is drawn", RICH, Due.BEYOND, x -> x.measure(1, 25));
        EDGE.refuses("7: FULL (nothing is drawn)", FULL, Due.FULL, x -> x.measure(0, 24));
    }

    private static void make() {
        EDGE.refuses("8: BEYOND of the CURVE ahead of FULL", FULL, Due.BEYOND, x -> x.make(24, 0, 11, 0, 3));
        EDGE.refuses("8: BEYOND of the PAPER ahead of FULL", FULL, Due.BEYOND, x -> x.make(1200, 0, 11, 0, 3));
        EDGE.refuses("8: BEYOND of by ahead of FULL", FULL, Due.BEYOND, x -> x.make(0, 4, 11, 0, 3));
        EDGE.refuses("8: BEYOND of factors ahead of FULL", FULL, Due.BEYOND, x -> x.make(0, 0, 60, 0, 3));
        EDGE.refuses("8: BEYOND of shift ahead of FULL", FULL, Due.BEYOND, x -> x.make(0, 0, 11, 1000, 3));
        EDGE.refuses("8: BEYOND of i ahead of FULL", FULL, Due.BEYOND, x -> x.make(0, 0, 11, 0, 103));
        EDGE.refuses("8: BEYOND of n ahead of FULL", FULL, Due.BEYOND, x -> x.make(0, 0, 11, 0, 2));
        EDGE.refuses("8: FULL", FULL, Due.FULL, x -> x.make(0, 0, 11, 0, 3));
    }

    private static void as() {
        EDGE.refuses("10: BEYOND of the CURVE", RICH, Due.BEYOND, x -> x.as(4, 2));
        EDGE.refuses("10: BEYOND of the KIND ahead of KIND", RICH, Due.BEYOND, x -> x.as(0, 8));
        EDGE.refuses("10: KIND: one under its own", RICH, Due.KIND, x -> x.as(0, 2));
        EDGE.refuses("10: KIND: one beside it", RICH, Due.KIND, x -> x.as(0, 3));
    }

    private static void feed() {
        EDGE.refuses("13: BEYOND ahead of FULL", FULL, Due.BEYOND, x -> x.feed(1, 0));
        EDGE.refuses("13: BEYOND ahead of FULL", FULL, Due.BEYOND, x -> x.feed(1, 9));
        EDGE.refuses("13: BEYOND ahead of FULL", FULL, Due.BEYOND, x -> x.feed(1, Integer.MAX_VALUE));
        EDGE.refuses("13: FULL", FULL, Due.FULL, x -> x.feed(1, 1));
    }

    /** A FAULT is no ERROR: the TEXT ahead stays, THE TAPE is empty, told() tells nothing of it. */
    private static void text() {
        EDGE.refuses("14: BEYOND (THE TAPE stays)", RICH, Due.BEYOND, x -> x.text(3));
        EDGE.refuses("14: BEYOND (THE TAPE stays)", FULL, Due.BEYOND, x -> x.text(-1));
        for (int use = 0; use < 3; use++) {
            int u = use;
            Supplier<TwiceNoise> bad = Edge.then(RICH, x -> x.feed('+', 1));
            // "x*3+": of LAW it ends too early; of the others x is no NAME.
            EDGE.is("14: -10 less its FAULT", bad.get().text(u), u == 0 ? -14 : -10);
            Supplier<TwiceNoise> after = Edge.then(bad, x -> x.text(u));
            Supplier<TwiceNoise> emptied = Edge.then(bad, x -> x.text(u == 0 ? 1 : 2));
            EDGE.is("14: THE TAPE is empty, too", after.get().count(6), 0);
            EDGE.is("14: the one ahead stays", Seen.of(after).equals(Seen.of(emptied)) ? 1 : 0, 1);
            EDGE.is("14: a FAULT is no ERROR", Edge.told(after.get()).equals(Edge.told(RICH.get())) ? 1 : 0, 1);
        }
        EDGE.refuses("15: BEYOND", RICH, Due.BEYOND, x -> x.law(3, 1, 1, 1));
        EDGE.refuses("15: BEYOND", RICH, Due.BEYOND, x -> x.law(-1, 1, 1, 1));
    }

    private static void bent() {
        // There is no BENDING of CURVE 3 (of 3 POINTS) to CURVE 0 (of 6).
        EDGE.is("17: 0 how many: none is no ERROR", Edge.rich().bent(3, 0, 5, 0), 0);
        for (int what = 1; what <= 5; what++) {
            int asked = what;
            EDGE.refuses("17: NONE: there is none (1 .. 5)", RICH, Due.NONE, x -> x.bent(3, 0, 5, asked));
        }
        EDGE.refuses("17: BEYOND of a ahead of NONE", RICH, Due.BEYOND, x -> x.bent(4, 0, 5, 1));
        EDGE.refuses("17: BEYOND of b ahead of NONE", RICH, Due.BEYOND, x -> x.bent(3, 4, 5, 1));
        EDGE.refuses("17: BEYOND of f ahead of NONE", RICH, Due.BEYOND, x -> x.bent(3, 0, 0, 1));
        EDGE.refuses("17: BEYOND of what ahead of NONE", RICH, Due.BEYOND, x -> x.bent(3, 0, 5, 6));
        EDGE.refuses("17: BEYOND if a is b ahead of NONE", RICH, Due.BEYOND, x -> x.bent(3, 3, 5, 1));
    }

    private static void rests() {
        EDGE.refuses("28: BEYOND of the PAPER ahead of STATE", RICH, Due.BEYOND, x -> x.rests(-1, 2));
        EDGE.refuses("28: BEYOND of the other one ahead of STATE", RICH, Due.BEYOND, x -> x.rests(2, 3));
        EDGE.refuses("28: BEYOND of both", RICH, Due.BEYOND, x -> x.rests(3, 3));
        for (int paper = 0; paper < 3; paper++) {
            for (int other = paper; other < 3; other++) {
                int p = paper;
                int on = other;
                EDGE.refuses("28: STATE: the other one isn't of a lesser number", RICH, Due.STATE, x -> x.rests(p, on));
            }
        }
        EDGE.is("28: not new: 0, no ERROR", Edge.rich().rests(1, 0), 0);
        EDGE.refuses("29: BEYOND", RICH, Due.BEYOND, x -> x.needs(2, 12));
        EDGE.refuses("30: BEYOND", RICH, Due.BEYOND, x -> x.fall(8));
    }

    private static void linkAndTries() {
        EDGE.refuses("31: BEYOND of a HOUSE ahead of FULL", FULL, Due.BEYOND, x -> x.link(8, 0, 1));
        EDGE.refuses("31: BEYOND of a HOUSE ahead of FULL", FULL, Due.BEYOND, x -> x.link(0, 8, 1));
        EDGE.refuses("31: BEYOND, both alike, ahead of FULL", FULL, Due.BEYOND, x -> x.link(4, 4, 1));
        EDGE.refuses("31: BEYOND of DAYS ahead of FULL", FULL, Due.BEYOND, x -> x.link(0, 1, 61));
        EDGE.refuses("31: FULL", FULL, Due.FULL, x -> x.link(0, 1, 1));
        EDGE.refuses("32: BEYOND of the HOUSE ahead of FULL", FULL, Due.BEYOND, x -> x.tries(8, 0, 1, false));
        EDGE.refuses("32: BEYOND of the PAPER ahead of FULL", FULL, Due.BEYOND, x -> x.tries(0, 12, 1, false));
        EDGE.refuses("32: BEYOND of the DAY ahead of FULL", FULL, Due.BEYOND, x -> x.tries(0, 0, 1000, false));
        EDGE.refuses("32: FULL", FULL, Due.FULL, x -> x.tries(0, 0, 1, false));
    }

    private static void knows() {
        // HOUSE 7 hears of nobody; nobody has failed at PAPER 1.
        EDGE.refuses("33: BEYOND of the HOUSE ahead of NONE", RICH, Due.BEYOND, x -> x.knows(8, 1, 1));
        EDGE.refuses("33: BEYOND of the PAPER ahead of NONE", RICH, Due.BEYOND, x -> x.knows(7, 3, 1));
        EDGE.refuses("33: BEYOND of n ahead of NONE", RICH, Due.BEYOND, x -> x.knows(7, 1, 31));
        EDGE.refuses("33: BEYOND of n ahead of NONE", RICH, Due.BEYOND, x -> x.knows(7, 1, 0));
        EDGE.refuses("33: NONE: never", RICH, Due.NONE, x -> x.knows(7, 0, 1));
        EDGE.refuses("33: NONE: never of so many", RICH, Due.NONE, x -> x.knows(1, 0, 3));
        EDGE.is("33: of one fewer", Edge.rich().knows(1, 0, 2), 999);
    }

    private static void ruleAndRules() {
        EDGE.refuses("34: BEYOND of cost ahead of FULL", FULL, Due.BEYOND, x -> x.rule(100, 1));
        EDGE.refuses("34: BEYOND of bits ahead of FULL", FULL, Due.BEYOND, x -> x.rule(1, 1 << 24));
        EDGE.refuses("34: FULL", FULL, Due.FULL, x -> x.rule(1, 1));
        Supplier<TwiceNoise> now = Edge.then(RICH, x -> x.measure(0, 3));
        EDGE.takes("34: CURVES that there are now", now, x -> x.rule(1, 16));
        EDGE.refuses("34: CURVES that there are not yet", RICH, Due.BEYOND, x -> x.rule(1, 16));
        EDGE.refuses("34: CURVES that there are no more", Edge.then(now, TwiceNoise::restore), Due.BEYOND, x -> x.rule(1, 1));
        EDGE.refuses("35: BEYOND of bits ahead of NONE", RICH, Due.BEYOND, x -> x.rules(16, 24, 0));
        EDGE.refuses("35: BEYOND of n ahead of NONE", RICH, Due.BEYOND, x -> x.rules(1, 25, 0));
        EDGE.refuses("35: BEYOND of what ahead of NONE", RICH, Due.BEYOND, x -> x.rules(1, 2, 2));
        EDGE.refuses("35: NONE: by none", RICH, Due.NONE, x -> x.rules(15, 5, 0));
        EDGE.refuses("35: NONE: by none", RICH, Due.NONE, x -> x.rules(15, 24, 1));
    }

    private static void parts(Supplier<TwiceNoise> made, int curve, int... bodies) {
        Supplier<TwiceNoise> after = Edge.then(made, x -> x.voice(curve, 3, 7));
        EDGE.is("36: PARTED is all that voice() answers", made.get().voice(curve, 3, 7), Due.PARTED);
        EDGE.is("36: PARTED is counted once", after.get().told(6), made.get().told(6) + 1);
        EDGE.is("36: but THE TRACE nothing is changed", Seen.butTrace(after).equals(Seen.butTrace(made)) ? 1 : 0, 1);
        EDGE.is("Term 6: THE TRACE of a PARTED one, as far as it came", after.get().count(8), bodies.length);
        for (int i = 0; i < bodies.length; i++) {
            EDGE.is("Term 6: BODY " + i + " of a PARTED one", after.get().trace(i), bodies[i]);
        }
        EDGE.is("37: none behind it", after.get().trace(bodies.length), Due.NONE);
    }

    /** CURVES 3 .. 10 are of KINDS 0 .. 7, each with as many POINTS as its number. */
    private static TwiceNoise parting() {
        TwiceNoise x = new TwiceNoise();
        x.paper(1, 1, 1);
        for (int c = 0; c < 3; c++) {
            x.measure(0, 3);
        }
        for (int kind = 0; kind < 8; kind++) {
            Due.curve(x, kind, 0, new int[kind + 3]);
        }
        x.voice(5, 2, 1);
        return x;
    }

    private static void voice() {
        int[][] bodies = {{13}, {13}, {13}, {41, 13}, {13}, {41, 13}, {13}, {80, 50, 12, 11, 10, 13}};
        for (int kind = 0; kind < 8; kind++) {
            parts(RefusedTest::parting, kind + 3, bodies[kind]);
        }
        EDGE.refuses("36: BEYOND of act, of a CURVE that would part", RICH, Due.BEYOND, x -> x.voice(3, 4, 1));
        EDGE.refuses("36: BEYOND (THE TRACE stays)", RefusedTest::parting, Due.BEYOND, x -> x.voice(11, 3, 1));
        EDGE.refuses("36: BEYOND (THE TRACE stays)", RefusedTest::parting, Due.BEYOND, x -> x.voice(3, -1, 1));
        for (int act = 0; act < 3; act++) {
            int asked = act;
            EDGE.takes("36: only tells parts", RefusedTest::parting, x -> x.voice(3, asked, 1));
        }
    }

    private static void trace() {
        Supplier<TwiceNoise> spoken = Edge.then(RICH, x -> x.voice(0, 0, 1));
        EDGE.refuses("37: NONE (no BEYOND)", spoken, Due.NONE, x -> x.trace(-1));
        EDGE.refuses("37: NONE (no BEYOND)", spoken, Due.NONE, x -> x.trace(1));
        EDGE.refuses("37: NONE (no BEYOND)", spoken, Due.NONE, x -> x.trace(30));
        EDGE.is("37: of the latest voice() alone", spoken.get().trace(0), 10);
    }

    private static void sheet() {
        EDGE.refuses("38: BEYOND of the SHEET ahead of STATE", RICH, Due.BEYOND, x -> x.sheet(4, 8, -1));
        EDGE.refuses("38: BEYOND of the SHEET, of 0 bits too", RICH, Due.BEYOND, x -> x.sheet(-1, 0, 0));
        EDGE.refuses("38: BEYOND of the bits ahead of STATE", RICH, Due.BEYOND, x -> x.sheet(0, 7, -1));
        EDGE.refuses("38: BEYOND of the bits ahead of BEYOND of n", RICH, Due.BEYOND, x -> x.sheet(0, 7, 25));
        EDGE.refuses("38: STATE: n is below 0 (ahead of BEYOND of n)", RICH, Due.STATE, x -> x.sheet(0, 8, -1));
        EDGE.refuses("38: BEYOND of n", RICH, Due.BEYOND, x -> x.sheet(0, 8, 25));
        EDGE.refuses("38: STATE of a missing SHEET", RICH, Due.STATE, x -> x.sheet(3, 32, -25));
    }

    private static void put() {
        EDGE.refuses("39: BEYOND: no such SHEET, ahead of BEYOND of i", RICH, Due.BEYOND, x -> x.put(4, -1, 1));
        EDGE.refuses("39: NONE ahead of BEYOND of i", RICH, Due.NONE, x -> x.put(3, -1, 1));
        EDGE.refuses("39: NONE ahead of BEYOND of i", RICH, Due.NONE, x -> x.put(3, 24, 1));
        EDGE.refuses("39: BEYOND: no such number", RICH, Due.BEYOND, x -> x.put(0, 6, 1));
    }

    private static void move() {
        // RICH: SHEET 0 of 16 bits, 1 of 8, 2 of 32, 3 is missing.
        EDGE.refuses("40: BEYOND: no such SHEET, ahead of NONE", RICH, Due.BEYOND, x -> x.move(4, 0, 3, 0, 1));
        EDGE.refuses("40: BEYOND: no such other one, ahead of NONE", RICH, Due.BEYOND, x -> x.move(3, 0, 4, 0, 1));
        EDGE.refuses("40: BEYOND: no such other one", RICH, Due.BEYOND, x -> x.move(0, 0, -1, 0, 1));
        EDGE.refuses("40: NONE ahead of KIND", RICH, Due.NONE, x -> x.move(0, 0, 3, 0, 1));
        EDGE.refuses("40: NONE ahead of KIND", RICH, Due.NONE, x -> x.move(3, 0, 0, 0, 1));
        EDGE.refuses("40: NONE ahead of BEYOND of n", RICH, Due.NONE, x -> x.move(3, 0, 3, 0, -1));
        for (int from = 0; from < 3; from++) {
            for (int to = 0; to < 3; to++) {
                int s = from;
                int other = to;
                if (s != other) {
                    EDGE.refuses("40: KIND: they are of unlike bits", RICH, Due.KIND, x -> x.move(s, 0, other, 0, 1));
                    EDGE.refuses("40: KIND, of no numbers too", RICH, Due.KIND, x -> x.move(s, 0, other, 0, 0));
                    EDGE.refuses("40: KIND ahead of BEYOND of n", RICH, Due.KIND, x -> x.move(s, 0, other, 0, -1));
                    EDGE.refuses("40: KIND ahead of BEYOND of i", RICH, Due.KIND, x -> x.move(s, -1, other, 0, 1));
                    EDGE.refuses("40: KIND ahead of BEYOND of j", RICH, Due.KIND, x -> x.move(s, 0, other, 25, 1));
                }
            }
        }
        int most = Integer.MAX_VALUE;
        int least = Integer.MIN_VALUE;
        int[][] wrong = {{0, 0, -1}, {-1, 0, 1}, {0, -1, 1}, {-1, 1, 0}, {1, -1, 0}, {0, 0, 7}, {1, 0, 6}, {0, 1, 6}, {6, 0, 1},
            {0, 6, 1}, {7, 0, 0}, {0, 7, 0}, {most, most, most}, {1, 1, most}, {most, 0, 1}, {0, most, 1}, {most, 0, 0}, {least, 0, 1},
            {0, least, 1}, {0, 0, least}, {least, least, least}, {most, 0, least}, {1, 0, least}, {most, most, 2}};
        for (int[] w : wrong) {
            EDGE.refuses("40: BEYOND: " + w[0] + ", " + w[1] + ", " + w[2], RICH, Due.BEYOND, x -> x.move(0, w[0], 0, w[1], w[2]));
        }
    }

    private static void images() {
        Supplier<TwiceNoise> none = Edge.then(NEW, x -> x.paper(1, 1, 1));
        EDGE.refuses("42: NONE", none, Due.NONE, TwiceNoise::restore);
        TwiceNoise x = none.get();
        x.restore();
        EDGE.is("41: how often that was done: a refused restore() isn't one", x.image(), 1);
        EDGE.is("42: how many CURVES there are", x.restore(), 0);
        EDGE.is("41: a restore() isn't one", x.image(), 2);
        x.told(0);
        x.restore();
        EDGE.is("41: all but what told() tells is kept", x.told(1), 1);
        EDGE.is("41: a refused restore() stays told", x.told(2), 1);
    }

    /** BEYOND of check() is an ERROR that changes something: none wait then, too. */
    private static void tellAndCheck() {
        EDGE.refuses("43: FULL", FULL, Due.FULL, x -> x.tell(5));
        for (int factor : new int[] {Integer.MIN_VALUE, -1, 0, 6, Integer.MAX_VALUE}) {
            EDGE.refusesBut("44: BEYOND (none wait then, too): rich", RICH, Due.BEYOND, x -> x.check(factor), Edge.then(RICH, x -> x.check(5)));
            EDGE.refusesBut("44: BEYOND (none wait then, too): full", FULL, Due.BEYOND, x -> x.check(factor), Edge.then(FULL, x -> x.check(1)));
            EDGE.is("44: none wait then", Edge.then(FULL, x -> x.check(factor)).get().count(7), 0);
        }
        EDGE.is("44: a number that isn't right is no ERROR", Edge.told(Edge.then(FULL, x -> x.check(5)).get()).get(0), 0);
    }

    private static void told() {
        TwiceNoise x = new TwiceNoise();
        int[] wrong = {0, 7, -1, Integer.MIN_VALUE, Integer.MAX_VALUE, -1000001};
        for (int k = 0; k < wrong.length; k++) {
            EDGE.is("46: BEYOND: another k", x.told(wrong[k]), Due.BEYOND);
            EDGE.is("46: counted, too", x.told(1), k + 1);
        }
        TwiceNoise y = Edge.rich();
        y.told(1);
        EDGE.is("46: asking is no ERROR", y.told(1), Edge.rich().told(1));
        TwiceNoise z = new TwiceNoise();
        for (int k = 0; k < 500; k++) {
            z.restore();
        }
        EDGE.is("46: as many as there were", z.told(2), 500);
    }
}
