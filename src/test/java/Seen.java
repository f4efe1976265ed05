import java.util.ArrayList;
import java.util.List;
import java.util.function.Supplier;

/**
 * What can be seen of an object, but for what told() tells; TEXTS, knows() and rules() by samples. Each part asks an
 * object of its own: asking changes some of what is asked, and 512 calls are the most.
 */
final class Seen {
    private final TwiceNoise x;
    private final StringBuilder s = new StringBuilder();

    private Seen(TwiceNoise x) {
        this.x = x;
    }

    static List<String> of(Supplier<TwiceNoise> made) {
        List<String> parts = butTrace(made);
        Seen trace = new Seen(made.get());
        trace.traced();
        parts.add(trace.s.toString());
        return parts;
    }

    static List<String> butTrace(Supplier<TwiceNoise> made) {
        List<String> parts = new ArrayList<>();
        for (int k = 0; k < 8; k++) {
            Seen part = new Seen(made.get());
            part.look(k);
            parts.add(part.s.toString());
        }
        return parts;
    }

    private void look(int part) {
        switch (part) {
            case 0: papersAndCurves(); break;
            case 1: case 2: case 3: points(8 * part - 8); break;
            case 4: settings(); break;
            case 5: houses(); break;
            case 6: sets(); break;
            default: imageAndSheets();
        }
    }

    private void add(long answer) {
        s.append(answer).append(' ');
    }

    private void traced() {
        for (int i = 0; i <= x.count(8); i++) {
            add(x.trace(i));
        }
    }

    private void papersAndCurves() {
        for (int what = 0; what < 10; what++) {
            if (what != 8) {
                add(x.count(what));
            }
        }
        for (int p = 0; p < x.count(0); p++) {
            for (int what = 0; what < 6; what++) {
                add(x.paperIs(p, what));
            }
        }
        for (int c = 0; c < x.count(1); c++) {
            for (int what = 0; what < 5; what++) {
                add(x.curveIs(c, what));
            }
        }
    }

    private void points(int from) {
        int most = x.count(1);
        for (int c = from; c < from + 8 && c < most; c++) {
            int many = x.curveIs(c, 3);
            for (int j = 0; j < many; j++) {
                add(x.point(c, j));
            }
        }
    }

    private void settings() {
        for (int m = 0; m < 4; m++) {
            for (int what = 0; what < 3; what++) {
                add(x.machine(m, what, 1));
            }
        }
        laws();
        // What stands on THE TAPE is seen by what it comes to.
        add(x.text(0));
        laws();
        add(x.draws(0));
    }

    private void laws() {
        for (int use = 0; use < 3; use++) {
            for (int k = 0; k < 4; k++) {
                add(x.law(use, 3 * k, 7 + k, 11 * k));
            }
        }
    }

    private void houses() {
        int papers = Math.min(3, x.count(0));
        for (int h = 0; h < 8; h++) {
            for (int p = 0; p < papers; p++) {
                for (int n = 1; n <= 7; n++) {
                    add(x.knows(h, p, n));
                }
            }
        }
    }

    private void sets() {
        int curves = x.count(1);
        int papers = x.count(0);
        for (int n = 1; n <= curves; n++) {
            add(x.rules((1 << curves) - 1, n, 0));
            add(x.rules((1 << curves) - 1, n, 1));
            add(x.rules(1 << n - 1, 1, 1));
        }
        for (int p = 0; p < papers; p++) {
            add(x.fall(1 << p));
        }
        for (int name = 0; name < 8; name++) {
            add(x.saw(name, 999));
        }
        // The numbers that wait are seen by whether they are right.
        add(x.check(5));
        add(x.image());
    }

    private void imageAndSheets() {
        add(x.restore());
        add(x.count(0));
        add(x.count(1));
        for (int s = 0; s < 4; s++) {
            int size = -1;
            for (int i = 0; i <= 24; i++) {
                size = x.move(s, i, s, i, 0) == 0 ? i : size;
            }
            add(size);
            addNumbers(s, size);
            // 8, 16 and 32 bits make three numbers of it.
            x.put(s, 0, 40000);
            addNumbers(s, size);
        }
    }

    private void addNumbers(int sheet, int size) {
        int c = x.curve(0, 0, sheet, 0, size);
        add(c);
        for (int j = 0; c >= 0 && j < size; j++) {
            add(x.point(c, j));
        }
    }
}
