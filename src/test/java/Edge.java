import java.util.ArrayList;
import java.util.List;
import java.util.function.Supplier;

/** What the tests of boundary cases share: objects in known states, and calls that must be taken or refused there. */
final class Edge {
    /** A call, and what it answers. */
    interface Ask {
        long of(TwiceNoise x);
    }

    /** A call with one number that is tried at its ends. */
    interface AskWith {
        long of(TwiceNoise x, int v);
    }

    private static final int LEAST = Integer.MIN_VALUE;
    private static final int MOST = Integer.MAX_VALUE;
    private final Due due;

    Edge(String about) {
        due = new Due(about);
    }

    void end() {
        due.end();
    }

    void is(String sentence, long got, long want) {
        due.is(sentence, got, want);
    }

    /** What told() tells of each ERROR. */
    static List<Integer> told(TwiceNoise x) {
        List<Integer> all = new ArrayList<>();
        for (int k = 1; k <= 6; k++) {
            all.add(x.told(k));
        }
        return all;
    }

    static Supplier<TwiceNoise> then(Supplier<TwiceNoise> made, Ask call) {
        return () -> {
            TwiceNoise x = made.get();
            call.of(x);
            return x;
        };
    }

    /** The call answers no ERROR. */
    void takes(String sentence, Supplier<TwiceNoise> made, Ask call) {
        List<Integer> after = told(then(made, call).get());
        due.is(sentence + " (is taken)", after.equals(told(made.get())) ? 1 : 0, 1);
    }

    /** The call answers the ERROR, counts it once, and changes nothing else that can be seen. */
    void refuses(String sentence, Supplier<TwiceNoise> made, long error, Ask call) {
        refusesBut(sentence, made, error, call, made);
    }

    /** The call answers the ERROR, counts it once, and all that can be seen is as in another object, but for told(). */
    void refusesBut(String sentence, Supplier<TwiceNoise> made, long error, Ask call, Supplier<TwiceNoise> as) {
        due.is(sentence, call.of(made.get()), error);
        List<Integer> want = told(made.get());
        int k = (int) (Due.BEYOND - error);
        want.set(k, want.get(k) + 1);
        due.is(sentence + " (counted once)", told(then(made, call).get()).equals(want) ? 1 : 0, 1);
        due.is(sentence + " (nothing else is changed)", Seen.of(then(made, call)).equals(Seen.of(as)) ? 1 : 0, 1);
    }

    /** Both ends are taken; one below, one above and the farthest ints are refused. */
    void range(String sentence, Supplier<TwiceNoise> made, int least, int most, AskWith call) {
        range(sentence, made, least, most, Due.BEYOND, call);
    }

    void range(String sentence, Supplier<TwiceNoise> made, int least, int most, long error, AskWith call) {
        for (int v : new int[] {least, most}) {
            takes(sentence + ": " + v, made, x -> call.of(x, v));
        }
        for (int v : new int[] {LEAST, least - 1, most + 1, MOST}) {
            refuses(sentence + ": " + v, made, error, x -> call.of(x, v));
        }
    }

    /** Any int is taken. */
    void any(String sentence, Supplier<TwiceNoise> made, AskWith call) {
        for (int v : new int[] {LEAST, LEAST + 1, -1000001, -1, 0, 1, MOST - 1, MOST}) {
            takes(sentence + ": " + v, made, x -> call.of(x, v));
        }
    }

    /** Only these are taken, of all that are near 0 and the farthest. */
    void only(String sentence, Supplier<TwiceNoise> made, String taken, AskWith call) {
        List<Integer> tried = new ArrayList<>(List.of(LEAST, LEAST + 8, LEAST + 10, MOST - 7, MOST));
        for (int v = -110; v <= 110; v++) {
            tried.add(v);
        }
        for (int v : tried) {
            if ((" " + taken + " ").contains(" " + v + " ")) {
                takes(sentence + ": " + v, made, x -> call.of(x, v));
            } else {
                refuses(sentence + ": " + v, made, Due.BEYOND, x -> call.of(x, v));
            }
        }
    }

    /** PAPERS 0 .. 2, CURVES 0 .. 3, SHEETS 0 .. 2, and some of all else; the IMAGE has PAPER 0 alone. */
    static TwiceNoise rich() {
        TwiceNoise x = new TwiceNoise();
        x.paper(5, 3, 2);
        x.image();
        x.paper(9, 6, 1);
        x.paper(7, 255, 99);
        x.machine(1, 0, 3);
        x.machine(1, 1, 2);
        x.machine(1, 2, 9);
        x.draws(7);
        Due.text(x, 0, "10*x+m");
        Due.text(x, 1, "d%2=1");
        Due.text(x, 2, "h<6");
        Due.curve(x, 1, 0, 10, 14, 9, 30, 22, 25);
        x.make(100, 3, 21, 5, 504);
        x.measure(21, 8);
        Due.curve(x, 5, 2, 1, 2, 4);
        numbers(x, 0, 16, 6);
        numbers(x, 1, 8, 5);
        numbers(x, 2, 32, 24);
        x.sheet(3, 0, 0);
        x.rests(1, 0);
        x.rests(2, 1);
        x.needs(2, 1);
        x.link(0, 1, 5);
        x.link(1, 2, 60);
        x.tries(0, 0, 9, false);
        x.tries(1, 0, 999, false);
        x.tries(2, 1, 0, true);
        x.rule(5, 3);
        x.rule(4, 12);
        x.voice(3, 2, 9);
        x.tell(-1);
        x.tell(0);
        Due.feed(x, "x*3");
        return x;
    }

    private static void numbers(TwiceNoise x, int sheet, int bits, int n) {
        x.sheet(sheet, bits, n);
        for (int i = 0; i < n; i++) {
            x.put(sheet, i, 7 * i - 20);
        }
    }

    /** As many PAPERS, CURVES, LINKS, TRIALS, RULES, bytes and numbers that wait as there may be. */
    static TwiceNoise full() {
        TwiceNoise x = new TwiceNoise();
        x.paper(1, 255, 1);
        x.image();
        for (int p = 1; p < 12; p++) {
            x.paper(90 * p, 255 - p, p);
        }
        numbers(x, 0, 32, 24);
        for (int c = 0; c < 24; c++) {
            x.curve(c % 8, c % 12 * 10 + c % 4, 0, c % 20, 3);
        }
        for (int k = 0; k < 20; k++) {
            x.link(k % 8, (k + 1) % 8, k + 1);
        }
        for (int k = 0; k < 30; k++) {
            x.tries(k % 8, k % 3, 33 * k, k % 5 == 4);
        }
        for (int r = 0; r < 8; r++) {
            x.rule(10 * r + 1, 0xfff << r);
        }
        for (int k = 0; k < 7; k++) {
            x.feed(0x2B312B312B312B31L, 8);
        }
        for (int k = 0; k < 24; k++) {
            x.tell(-1);
        }
        return x;
    }

    /** PAPER 0 and all SHEETS, of 32 bits and 24 numbers, all 0. */
    static TwiceNoise sheeted() {
        TwiceNoise x = new TwiceNoise();
        x.paper(1, 1, 1);
        for (int s = 0; s < 4; s++) {
            x.sheet(s, 32, 24);
        }
        return x;
    }

    /** PAPERS 0 .. 2, and a CURVE of each KIND with 9 POINTS, those of KIND 7 in PAPER 2. */
    static TwiceNoise kinds() {
        TwiceNoise x = new TwiceNoise();
        for (int p = 0; p < 3; p++) {
            x.paper(p, 7, 1);
        }
        for (int kind = 0; kind < 8; kind++) {
            Due.curve(x, kind, kind < 7 ? 0 : 20, 0, 1, 4, 9, 16, 25, 36, 49, 64);
        }
        return x;
    }

    /** CURVE 0 of 3 POINTS, CURVE 1 of 24, CURVE 2 of 6. */
    static TwiceNoise sizes() {
        TwiceNoise x = new TwiceNoise();
        x.paper(1, 1, 1);
        x.machine(0, 1, 50);
        x.measure(0, 3);
        x.measure(0, 24);
        x.measure(0, 6);
        return x;
    }

    /** HOUSE 0 has failed 30 times at PAPER 0, from DAY 100 on, and tells all others, each a DAY behind the one ahead. */
    static TwiceNoise heard() {
        TwiceNoise x = new TwiceNoise();
        x.paper(1, 1, 1);
        x.paper(1, 1, 1);
        for (int h = 1; h < 8; h++) {
            x.link(0, h, h);
        }
        for (int k = 0; k < 30; k++) {
            x.tries(0, 0, 100 + k, false);
        }
        return x;
    }

    /** 24 CURVES, with a RULE that shows all. */
    static TwiceNoise shown() {
        TwiceNoise x = new TwiceNoise();
        x.paper(1, 1, 1);
        for (int c = 0; c < 24; c++) {
            x.measure(0, 3);
        }
        x.rule(7, (1 << 24) - 1);
        return x;
    }
}
