/** Counts and prints every answer that is not the one that is due. */
final class Due {
    static final long BEYOND = -1000001;
    static final long NONE = -1000002;
    static final long STATE = -1000003;
    static final long FULL = -1000004;
    static final long KIND = -1000005;
    static final long PARTED = -1000006;

    private final String about;
    private int asked = 0;
    private int wrong = 0;

    Due(String about) {
        this.about = about;
    }

    void is(String what, long got, long want) {
        asked++;
        if (got != want) {
            wrong++;
            System.out.println(about + ": " + what + " answered " + got + ", due is " + want);
        }
    }

    void end() {
        System.out.println(about + ": " + asked + " asked, " + wrong + " wrong");
        System.exit(wrong == 0 ? 0 : 1);
    }

    /** The bytes of a text come to THE TAPE. */
    static void feed(TwiceNoise x, String text) {
        for (int at = 0; at < text.length(); at++) {
            x.feed(text.charAt(at), 1);
        }
    }

    static int text(TwiceNoise x, int use, String text) {
        feed(x, text);
        return x.text(use);
    }

    /** A CURVE of some KIND with these POINTS, by way of SHEET 3. */
    static int curve(TwiceNoise x, int kind, int place, int... points) {
        x.sheet(3, 32, points.length);
        for (int j = 0; j < points.length; j++) {
            x.put(3, j, points[j]);
        }
        return x.curve(kind, place, 3, 0, points.length);
    }
}
