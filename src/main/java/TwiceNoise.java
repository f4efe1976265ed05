/**
 * The same noise twice: curves of points, what they were bent out of, who could have done it, which papers fall
 * with them, and which rules would have shown it. The document's numbered promises say what each call answers.
 */
public final class TwiceNoise {
    private static final int LOW = -1000000;
    private static final int BEYOND = LOW - 1;
    private static final int NONE = LOW - 2;
    private static final int STATE = LOW - 3;
    private static final int FULL = LOW - 4;
    private static final int UNLIKE_KIND = LOW - 5;
    private static final int PARTED = LOW - 6;

    private static final int MOST_DAY = 999;
    private static final int MOST_POINT = 99999;
    private static final int MOST_CURVES = 24;
    private static final int FEWEST_POINTS = 3;
    private static final int MOST_POINTS = 24;
    private static final int MOST_FACTOR = 5;
    private static final int MOST_HOUSE = 7;
    private static final int MOST_NAME = 7;
    private static final int MOST_TRIALS = 30;
    private static final int MOST_DISTANCE = 2000000000;
    private static final int FAR = 1000000;

    private static final int LAW = 0;
    private static final int BAD = 1;
    private static final int SAID = 2;

    private static final int MEASURED = 1;
    private static final int BENT = 3;

    private static final int[] LEAST_SETTING = {1, 0, 0};
    private static final int[] MOST_SETTING = {99, 50, 9999};

    private final State now = new State();
    private final Reader reader = new Reader();
    private final Voices voices = new Voices();
    private final Sheet[] sheets = new Sheet[4];
    private final int[] errors = new int[7];
    private final int[] shared = new int[MOST_CURVES];
    private final int[] behind = new int[MOST_HOUSE + 1];
    private final int[] newsDays = new int[MOST_TRIALS];
    private State kept = null;
    private int images = 0;

    public TwiceNoise() {
        for (int k = 0; k < sheets.length; k++) {
            sheets[k] = new Sheet();
        }
    }

    // ---- machines, papers, curves

    public int machine(int machine, int what, int v) {
        if (outside(machine, 0, 3) || outside(what, 0, 2) || outside(v, LEAST_SETTING[what], MOST_SETTING[what])) {
            return fails(BEYOND);
        }
        int was = now.machines.at(machine, what);
        now.machines.set(machine, what, v);
        return was;
    }

    public int draws(int w) {
        int was = now.drawn;
        now.drawn = w;
        return was;
    }

    public int paper(int day, int names, int width) {
        if (outside(day, 0, MOST_DAY) || outside(names, 1, 255) || outside(width, 1, 99)) {
            return fails(BEYOND);
        }
        if (now.papers.isFull()) {
            return fails(FULL);
        }
        int number = now.papers.add();
        now.papers.set(number, State.DAY, day);
        now.papers.set(number, State.NAMES, names);
        now.papers.set(number, State.WIDTH, width);
        return number;
    }

    public int paperIs(int paper, int what) {
        if (!now.papers.has(paper) || outside(what, 0, 5)) {
            return fails(BEYOND);
        }
        return what == 5 ? now.curvesIn(paper) : now.papers.at(paper, what);
    }

    public int curve(int kind, int place, int sheet, int i, int n) {
        if (outside(kind, 0, 7) || !isPlace(place) || outside(sheet, 0, 3) || !isLength(n)) {
            return fails(BEYOND);
        }
        Sheet from = sheets[sheet];
        if (from.isMissing()) {
            return fails(NONE);
        }
        if (!from.holds(i, n) || !arePoints(from, i, n)) {
            return fails(BEYOND);
        }
        if (now.curves.isFull()) {
            return fails(FULL);
        }
        int number = now.addCurve(kind, place / 10, place % 10, n, -1);
        for (int j = 0; j < n; j++) {
            now.setPoint(number, j, from.at(i + j));
        }
        return number;
    }

    public int measure(int place, int n) {
        if (!isPlace(place) || !isLength(n)) {
            return fails(BEYOND);
        }
        if (now.curves.isFull()) {
            return fails(FULL);
        }
        int machine = place % 10;
        int number = now.addCurve(MEASURED, place / 10, machine, n, -1);
        long step = now.machines.at(machine, State.STEP);
        int noise = now.machines.at(machine, State.NOISE);
        for (int j = 0; j < n; j++) {
            long steps = now.draw(2 * noise + 1) - noise;
            now.setPoint(number, j, held(lawAt(number, j) + steps * step));
        }
        return number;
    }

    public int make(int of, int by, int factors, int shift, int span) {
        int source = of % 100;
        int paper = of / 100;
        int up = factors / 10;
        int down = factors % 10;
        int i = span / 100;
        int n = span % 100;
        if (!now.curves.has(source) || !now.papers.has(paper) || outside(by, 0, 3) || !isFactor(up) || !isFactor(down)
                || outside(shift, -999, 999) || !isLength(n) || n > now.roomFrom(source, i, by & 1)) {
            return fails(BEYOND);
        }
        if (now.curves.isFull()) {
            return fails(FULL);
        }
        int number = now.addCurve(BENT, paper, now.curves.at(source, State.OF_MACHINE), n, source);
        int way = (by & 1) == 1 ? -1 : 1;
        for (int j = 0; j < n; j++) {
            int stretched = now.pointAt(source, i + way * j) * up / down;
            int turned = (by & 2) == 2 ? -stretched : stretched;
            now.setPoint(number, j, held(turned + shift));
        }
        return number;
    }

    public int curveIs(int curve, int what) {
        if (!now.curves.has(curve) || outside(what, 0, 4)) {
            return fails(BEYOND);
        }
        return now.curves.at(curve, what);
    }

    public int as(int curve, int kind) {
        if (!now.curves.has(curve) || outside(kind, 0, 7)) {
            return fails(BEYOND);
        }
        if (!Voices.isUnder(now.curves.at(curve, State.OF_KIND), kind)) {
            return fails(UNLIKE_KIND);
        }
        return now.size(curve);
    }

    public int point(int curve, int j) {
        if (!now.curves.has(curve) || outside(j, 0, now.size(curve) - 1)) {
            return fails(BEYOND);
        }
        return now.pointAt(curve, j);
    }

    public int hair(int curve, int j) {
        if (!now.curves.has(curve) || outside(j, 1, now.size(curve) - 2)) {
            return fails(BEYOND);
        }
        return now.hairAt(curve, j);
    }

    // ---- texts

    public int feed(long word, int n) {
        if (outside(n, 1, 8)) {
            return fails(BEYOND);
        }
        if (now.tape.size + n > Bytes.MOST) {
            return fails(FULL);
        }
        for (int k = 0; k < n; k++) {
            now.tape.add((byte) (word >> (8 * k)));
        }
        return now.tape.size;
    }

    public int text(int use) {
        if (!isUse(use)) {
            return fails(BEYOND);
        }
        reader.read(now.tape, use, 0, 0, 0);
        if (!reader.failed) {
            now.texts[use].copyFrom(now.tape);
        }
        now.tape.clear();
        return reader.failed ? -10 - reader.at : reader.signs;
    }

    public int law(int use, int a, int b, int c) {
        if (!isUse(use)) {
            return fails(BEYOND);
        }
        return worth(use, a, b, c);
    }

    // ---- the same noise

    public int same(int a, int b, int what) {
        if (!areTwo(a, b) || outside(what, 0, 2)) {
            return fails(BEYOND);
        }
        int most = 0;
        int inA = 0;
        int inB = 0;
        for (int i = 1; i <= now.size(a) - 2; i++) {
            for (int j = 1; j <= now.size(b) - 2; j++) {
                int row = alikeFrom(a, i, b, j);
                if (row > most) {
                    most = row;
                    inA = i;
                    inB = j;
                }
            }
        }
        return what == 0 ? most : what == 1 ? inA : inB;
    }

    public int bent(int a, int b, int f, int what) {
        if (!areTwo(a, b) || !isFactor(f) || outside(what, 0, 5)) {
            return fails(BEYOND);
        }
        if (what == 0) {
            return Bends.howMany(now, a, b, f);
        }
        int first = Bends.first(now, a, b, f);
        return first < 0 ? fails(NONE) : Bends.part(first, what);
    }

    public int pairs(int f) {
        if (!isFactor(f)) {
            return fails(BEYOND);
        }
        int many = 0;
        for (int a = 0; a < now.curves.count; a++) {
            for (int b = 0; b < now.curves.count; b++) {
                if (a != b && Bends.first(now, a, b, f) >= 0) {
                    many++;
                }
            }
        }
        return many;
    }

    public int prints(int a, int b, int width) {
        if (!areTwo(a, b) || outside(width, 1, 9999)) {
            return fails(BEYOND);
        }
        int unlike = 0;
        int both = Math.min(now.size(a), now.size(b));
        for (int j = 0; j < both; j++) {
            if (Math.floorDiv(now.pointAt(a, j), width) != Math.floorDiv(now.pointAt(b, j), width)) {
                unlike++;
            }
        }
        return unlike;
    }

    // ---- laws, signs, odds

    public int worked(int curve, int w, int what) {
        if (!now.curves.has(curve) || outside(w, 0, MOST_POINT) || outside(what, 0, 2)) {
            return fails(BEYOND);
        }
        long step = Math.max(1, now.machines.at(now.curves.at(curve, State.OF_MACHINE), State.STEP));
        int near = 0;
        int odd = 0;
        long greatest = 0;
        for (int j = 0; j < now.size(curve); j++) {
            long distance = Math.abs(now.pointAt(curve, j) - lawAt(curve, j));
            greatest = Math.max(greatest, distance);
            near += distance <= w ? 1 : 0;
            odd += distance % step != 0 ? 1 : 0;
        }
        return what == 0 ? near : what == 1 ? (int) Math.min(greatest, MOST_DISTANCE) : odd;
    }

    public int sign(int curve) {
        if (!now.curves.has(curve)) {
            return fails(BEYOND);
        }
        return signOf(curve);
    }

    public int unsigned() {
        int bits = 0;
        for (int c = 0; c < now.curves.count; c++) {
            if (signOf(c) == 2) {
                bits |= 1 << c;
            }
        }
        return bits;
    }

    public long honest(int n, int s, int w, int part) {
        if (outside(n, 1, 8) || outside(s, 1, 50) || outside(w, 0, s) || outside(part, 0, 1)) {
            return fails(BEYOND);
        }
        int good = 2 * w + 1;
        int all = 2 * s + 1;
        // A power of a fraction in least terms is in least terms.
        int base = (part == 0 ? good : all) / Bends.divisorOfBoth(good, all);
        long power = 1;
        for (int k = 0; k < n; k++) {
            power *= base;
        }
        return power;
    }

    // ---- who, of what

    public int could(int curve, int f) {
        if (!now.curves.has(curve) || !isFactor(f)) {
            return fails(BEYOND);
        }
        return Bends.origins(now, curve, f);
    }

    public int sources(int f) {
        if (!isFactor(f)) {
            return fails(BEYOND);
        }
        int bits = 0;
        for (int c = 0; c < now.curves.count; c++) {
            if (Bends.origins(now, c, f) == 0) {
                bits |= 1 << c;
            }
        }
        return bits;
    }

    public int hands(int f) {
        if (!isFactor(f)) {
            return fails(BEYOND);
        }
        int nonSources = findShared(f);
        // All NAMES together explain all; a set met later must have fewer to be better.
        int best = 255;
        for (int set = 0; set < 256; set++) {
            if (Integer.bitCount(set) < Integer.bitCount(best) && explainsAll(set, nonSources)) {
                best = set;
            }
        }
        return best;
    }

    public int saw(int name, int day) {
        if (outside(name, 0, MOST_NAME) || outside(day, 0, MOST_DAY)) {
            return fails(BEYOND);
        }
        int bits = 0;
        for (int p = 0; p < now.papers.count; p++) {
            if (now.papers.at(p, State.DAY) <= day && (now.papers.at(p, State.NAMES) >> name & 1) == 1) {
                bits |= 1 << p;
            }
        }
        return bits;
    }

    // ---- papers that rest on papers

    public int rests(int paper, int on) {
        if (!now.papers.has(paper) || !now.papers.has(on)) {
            return fails(BEYOND);
        }
        if (on >= paper) {
            return fails(STATE);
        }
        int had = now.papers.at(paper, State.RESTS);
        now.papers.set(paper, State.RESTS, had | 1 << on);
        return (had >> on & 1) == 0 ? 1 : 0;
    }

    public int needs(int paper, int n) {
        if (!now.papers.has(paper) || outside(n, 0, 11)) {
            return fails(BEYOND);
        }
        int was = now.papers.at(paper, State.NEED);
        now.papers.set(paper, State.NEED, n);
        return was;
    }

    public int fall(int set) {
        if (!areAmong(set, now.papers.count)) {
            return fails(BEYOND);
        }
        int standing = 0;
        // A PAPER rests on lesser numbers alone, so one round in order settles all.
        for (int p = 0; p < now.papers.count; p++) {
            int props = Integer.bitCount(now.papers.at(p, State.RESTS) & standing);
            if ((set >> p & 1) == 0 && props >= now.papers.at(p, State.NEED)) {
                standing |= 1 << p;
            }
        }
        return ~standing & (1 << now.papers.count) - 1;
    }

    // ---- houses, rules

    public int link(int house, int other, int days) {
        if (!isHouse(house) || !isHouse(other) || house == other || outside(days, 1, 60)) {
            return fails(BEYOND);
        }
        if (now.links.isFull()) {
            return fails(FULL);
        }
        int number = now.links.add();
        now.links.set(number, State.TELLER, house);
        now.links.set(number, State.HEARER, other);
        now.links.set(number, State.DELAY, days);
        return now.links.count;
    }

    public int tries(int house, int paper, int day, boolean well) {
        if (!isHouse(house) || !now.papers.has(paper) || outside(day, 0, MOST_DAY)) {
            return fails(BEYOND);
        }
        if (now.trials.isFull()) {
            return fails(FULL);
        }
        int number = now.trials.add();
        now.trials.set(number, State.TRIER, house);
        now.trials.set(number, State.TRIED, paper);
        now.trials.set(number, State.TRIAL_DAY, day);
        now.trials.set(number, State.FAILED, well ? 0 : 1);
        return now.trials.count;
    }

    public int knows(int house, int paper, int n) {
        if (!isHouse(house) || !now.papers.has(paper) || outside(n, 1, MOST_TRIALS)) {
            return fails(BEYOND);
        }
        findBehind(house);
        int known = 0;
        for (int t = 0; t < now.trials.count; t++) {
            if (now.trials.at(t, State.FAILED) == 1 && now.trials.at(t, State.TRIED) == paper) {
                int day = dayOfNews(t, house);
                if (day < FAR) {
                    insertDay(day, known);
                    known++;
                }
            }
        }
        return known < n ? fails(NONE) : newsDays[n - 1];
    }

    public int rule(int cost, int curves) {
        if (outside(cost, 1, 99) || !areAmong(curves, now.curves.count)) {
            return fails(BEYOND);
        }
        if (now.rules.isFull()) {
            return fails(FULL);
        }
        int number = now.rules.add();
        now.rules.set(number, State.COST, cost);
        now.rules.set(number, State.SHOWN, curves);
        return number;
    }

    public int rules(int curves, int n, int what) {
        if (!areAmong(curves, now.curves.count) || outside(n, 1, MOST_CURVES) || outside(what, 0, 1)) {
            return fails(BEYOND);
        }
        int best = 0;
        int sets = 1 << now.rules.count;
        // No set shows n of them without a RULE in it, so 0 may stand for "none yet".
        for (int set = 1; set < sets; set++) {
            if (Integer.bitCount(shownBy(set) & curves) >= n && (best == 0 || isLesser(set, best))) {
                best = set;
            }
        }
        if (best == 0) {
            return fails(NONE);
        }
        return what == 0 ? costOf(best) : best;
    }

    // ---- voices, sheets, images, what is told

    public int voice(int curve, int act, int x) {
        if (!now.curves.has(curve) || outside(act, 0, 3)) {
            return fails(BEYOND);
        }
        int answer = voices.speak(now.curves.at(curve, State.OF_KIND), curve, now.size(curve), act, x);
        return voices.parted ? fails(PARTED) : answer;
    }

    public int trace(int i) {
        if (outside(i, 0, voices.begun - 1)) {
            return fails(NONE);
        }
        return voices.bodies[i];
    }

    public int sheet(int sheet, int bits, int n) {
        if (outside(sheet, 0, 3) || !Sheet.isWidth(bits)) {
            return fails(BEYOND);
        }
        if (bits != 0 && n < 0) {
            return fails(STATE);
        }
        if (bits != 0 && n > Sheet.MOST) {
            return fails(BEYOND);
        }
        sheets[sheet].become(bits, bits == 0 ? 0 : n);
        return 1;
    }

    public int put(int sheet, int i, int v) {
        if (outside(sheet, 0, 3)) {
            return fails(BEYOND);
        }
        if (sheets[sheet].isMissing()) {
            return fails(NONE);
        }
        if (!sheets[sheet].holds(i, 1)) {
            return fails(BEYOND);
        }
        sheets[sheet].set(i, v);
        return 1;
    }

    public int move(int sheet, int i, int other, int j, int n) {
        if (outside(sheet, 0, 3) || outside(other, 0, 3)) {
            return fails(BEYOND);
        }
        Sheet from = sheets[sheet];
        Sheet to = sheets[other];
        if (from.isMissing() || to.isMissing()) {
            return fails(NONE);
        }
        if (from.bits != to.bits) {
            return fails(UNLIKE_KIND);
        }
        if (!from.holds(i, n) || !to.holds(j, n)) {
            return fails(BEYOND);
        }
        System.arraycopy(from.row, i, to.row, j, n);
        return n;
    }

    public int image() {
        if (kept == null) {
            kept = new State();
        }
        kept.copyFrom(now);
        images++;
        return images;
    }

    public int restore() {
        if (kept == null) {
            return fails(NONE);
        }
        now.copyFrom(kept);
        return now.curves.count;
    }

    public int tell(int v) {
        if (now.waiting.isFull()) {
            return fails(FULL);
        }
        now.waiting.set(now.waiting.add(), 0, v);
        return now.waiting.count;
    }

    public int check(int f) {
        int answer = isFactor(f) ? firstWrong(f) : fails(BEYOND);
        now.waiting.clear();
        return answer;
    }

    public int count(int what) {
        switch (what) {
            case 0: return now.papers.count;
            case 1: return now.curves.count;
            case 2: return now.links.count;
            case 3: return now.trials.count;
            case 4: return now.trials.sum(State.FAILED);
            case 5: return now.rules.count;
            case 6: return now.tape.size;
            case 7: return now.waiting.count;
            case 8: return voices.begun;
            case 9: return now.curves.sum(State.SIZE);
            default: return fails(BEYOND);
        }
    }

    public int told(int k) {
        return outside(k, 1, 6) ? fails(BEYOND) : errors[k];
    }

    // ---- what the calls ask of their arguments

    private int fails(int error) {
        int k = LOW - error;
        if (!outside(k, 1, 6)) {
            errors[k]++;
        }
        return error;
    }

    private static boolean outside(int v, int least, int most) {
        return v < least || v > most;
    }

    private static boolean isFactor(int f) {
        return !outside(f, 1, MOST_FACTOR);
    }

    private static boolean isLength(int n) {
        return !outside(n, FEWEST_POINTS, MOST_POINTS);
    }

    private static boolean isHouse(int house) {
        return !outside(house, 0, MOST_HOUSE);
    }

    private static boolean isUse(int use) {
        return !outside(use, LAW, SAID);
    }

    private static boolean areAmong(int bits, int many) {
        return (bits & ~((1 << many) - 1)) == 0;
    }

    private boolean isPlace(int place) {
        return place >= 0 && now.papers.has(place / 10) && place % 10 <= 3;
    }

    private boolean areTwo(int a, int b) {
        return now.curves.has(a) && now.curves.has(b) && a != b;
    }

    private static boolean arePoints(Sheet from, int i, int n) {
        for (int j = 0; j < n; j++) {
            if (outside(from.at(i + j), -MOST_POINT, MOST_POINT)) {
                return false;
            }
        }
        return true;
    }

    // ---- what several calls work out

    private static int held(long v) {
        return (int) Math.max(-MOST_POINT, Math.min(MOST_POINT, v));
    }

    private static int lowestBit(int bits) {
        for (int k = 0; k < 32; k++) {
            if ((bits >> k & 1) == 1) {
                return k;
            }
        }
        return -1;
    }

    /** 0, if all numbers that wait are right; else 1 and the place of the first that isn't. */
    private int firstWrong(int f) {
        for (int k = 0; k < now.waiting.count; k++) {
            if (!now.curves.has(k) || now.waiting.at(k, 0) != lowestBit(Bends.origins(now, k, f))) {
                return 1 + k;
            }
        }
        return 0;
    }

    private int worth(int use, int a, int b, int c) {
        Bytes given = now.texts[use];
        if (given.size > 0) {
            return reader.read(given, use, a, b, c);
        }
        switch (use) {
            case LAW: return 10 * a;
            case BAD: return b % 30 == 7 ? 1 : 0;
            default: return 1;
        }
    }

    /** A long, since what is added to it or taken from it must not wrap. */
    private long lawAt(int curve, int j) {
        return worth(LAW, j, now.curves.at(curve, State.OF_MACHINE), now.dayOf(curve));
    }

    private int signOf(int curve) {
        int machine = now.curves.at(curve, State.OF_MACHINE);
        if (worth(BAD, machine, now.dayOf(curve), 0) == 0) {
            return 0;
        }
        int bound = now.machines.at(machine, State.BOUND);
        for (int j = 1; j <= now.size(curve) - 2; j++) {
            if (Math.abs(now.hairAt(curve, j)) > bound) {
                return 1;
            }
        }
        return 2;
    }

    private int alikeFrom(int a, int i, int b, int j) {
        int most = Math.min(now.size(a) - 1 - i, now.size(b) - 1 - j);
        int row = 0;
        while (row < most && now.hairAt(a, i + row) == now.hairAt(b, j + row)) {
            row++;
        }
        return row;
    }

    /** Fills shared with who signed a CURVE's PAPER and that of one it COULD come of; answers the CURVES with such. */
    private int findShared(int f) {
        int nonSources = 0;
        for (int c = 0; c < now.curves.count && c < shared.length; c++) {
            int origins = Bends.origins(now, c, f);
            shared[c] = 0;
            for (int a = 0; a < now.curves.count; a++) {
                if ((origins >> a & 1) == 1) {
                    shared[c] |= now.namesOf(a) & now.namesOf(c);
                }
            }
            if (origins != 0) {
                nonSources |= 1 << c;
            }
        }
        return nonSources;
    }

    private boolean explainsAll(int set, int nonSources) {
        for (int c = 0; c < shared.length; c++) {
            if ((nonSources >> c & 1) == 1 && (shared[c] & set) == 0) {
                return false;
            }
        }
        return true;
    }

    /** Fills behind with how many DAYS what each HOUSE tells takes to a HOUSE: FAR, if it never comes. */
    private void findBehind(int house) {
        for (int h = 0; h < behind.length; h++) {
            behind[h] = h == house ? 0 : FAR;
        }
        // The shortest way has no HOUSE twice, so as many rounds as HOUSES settle all.
        for (int round = 0; round < behind.length; round++) {
            for (int k = 0; k < now.links.count; k++) {
                int teller = now.links.at(k, State.TELLER);
                int hearer = now.links.at(k, State.HEARER);
                if (isHouse(teller) && isHouse(hearer)) {
                    behind[teller] = Math.min(behind[teller], behind[hearer] + now.links.at(k, State.DELAY));
                }
            }
        }
    }

    private int dayOfNews(int trial, int house) {
        int trier = now.trials.at(trial, State.TRIER);
        int day = now.trials.at(trial, State.TRIAL_DAY);
        if (trier == house) {
            return day;
        }
        if (!isHouse(trier) || worth(SAID, trier, now.trials.at(trial, State.TRIED), day) == 0) {
            return FAR;
        }
        return day + behind[trier];
    }

    /** Keeps the days known so far in order. */
    private void insertDay(int day, int known) {
        if (known >= newsDays.length) {
            return;
        }
        int k = known;
        while (k > 0 && newsDays[k - 1] > day) {
            newsDays[k] = newsDays[k - 1];
            k--;
        }
        newsDays[k] = day;
    }

    private int shownBy(int set) {
        int bits = 0;
        for (int r = 0; r < now.rules.count; r++) {
            if ((set >> r & 1) == 1) {
                bits |= now.rules.at(r, State.SHOWN);
            }
        }
        return bits;
    }

    private int costOf(int set) {
        int cost = 0;
        for (int r = 0; r < now.rules.count; r++) {
            if ((set >> r & 1) == 1) {
                cost += now.rules.at(r, State.COST);
            }
        }
        return cost;
    }

    /** Of alike cost and as many RULES the one met first stays: sets are met from the least bits on. */
    private boolean isLesser(int set, int best) {
        int less = costOf(set) - costOf(best);
        return less < 0 || less == 0 && Integer.bitCount(set) < Integer.bitCount(best);
    }

    /** Rows of as many numbers each, up to a limit. Made once and used again, since a run's room is small. */
    private static final class Table {
        final int width;
        final int limit;
        final int[] cells;
        int count = 0;

        Table(int width, int limit) {
            this.width = width;
            this.limit = limit;
            this.cells = new int[Math.max(0, width * limit)];
        }

        boolean isFull() {
            return count >= limit;
        }

        boolean has(int row) {
            return row >= 0 && row < count;
        }

        /** A new row of zeros: its number, or -1 if there is no room. */
        int add() {
            if (count >= limit) {
                return -1;
            }
            for (int k = 0; k < width; k++) {
                cells[count * width + k] = 0;
            }
            count++;
            return count - 1;
        }

        int at(int row, int column) {
            return row >= 0 && row < count && column >= 0 && column < width ? cells[row * width + column] : 0;
        }

        void set(int row, int column, int v) {
            if (row >= 0 && row < count && column >= 0 && column < width) {
                cells[row * width + column] = v;
            }
        }

        int sum(int column) {
            int all = 0;
            for (int row = 0; row < count; row++) {
                all += at(row, column);
            }
            return all;
        }

        void clear() {
            count = 0;
        }

        void copyFrom(Table other) {
            System.arraycopy(other.cells, 0, cells, 0, Math.min(cells.length, other.cells.length));
            count = other.count;
        }
    }

    /** THE TAPE, or the bytes of a TEXT (none: no TEXT was told). */
    private static final class Bytes {
        static final int MOST = 56;

        final byte[] row = new byte[MOST];
        int size = 0;

        void add(byte b) {
            if (size < MOST) {
                row[size] = b;
                size++;
            }
        }

        void clear() {
            size = 0;
        }

        void copyFrom(Bytes other) {
            System.arraycopy(other.row, 0, row, 0, MOST);
            size = other.size;
        }
    }

    /** All that an IMAGE keeps. */
    private static final class State {
        static final int STEP = 0;
        static final int NOISE = 1;
        static final int BOUND = 2;

        // In the order in which paperIs() tells them.
        static final int DAY = 0;
        static final int NAMES = 1;
        static final int WIDTH = 2;
        static final int NEED = 3;
        static final int RESTS = 4;

        // In the order in which curveIs() tells them.
        static final int OF_KIND = 0;
        static final int IN_PAPER = 1;
        static final int OF_MACHINE = 2;
        static final int SIZE = 3;
        static final int MADE_OF = 4;

        static final int TELLER = 0;
        static final int HEARER = 1;
        static final int DELAY = 2;

        static final int TRIER = 0;
        static final int TRIED = 1;
        static final int TRIAL_DAY = 2;
        static final int FAILED = 3;

        static final int COST = 0;
        static final int SHOWN = 1;

        final Table machines = new Table(3, 4);
        final Table papers = new Table(5, 12);
        final Table curves = new Table(5, MOST_CURVES);
        final int[] points = new int[MOST_CURVES * MOST_POINTS];
        final Table links = new Table(3, 20);
        final Table trials = new Table(4, MOST_TRIALS);
        final Table rules = new Table(2, 8);
        final Table waiting = new Table(1, 24);
        final Bytes tape = new Bytes();
        final Bytes[] texts = new Bytes[3];
        int drawn = 1;

        State() {
            for (int m = 0; m < 4; m++) {
                machines.set(machines.add(), STEP, 1);
            }
            for (int use = 0; use < texts.length; use++) {
                texts[use] = new Bytes();
            }
        }

        void copyFrom(State other) {
            machines.copyFrom(other.machines);
            papers.copyFrom(other.papers);
            curves.copyFrom(other.curves);
            System.arraycopy(other.points, 0, points, 0, points.length);
            links.copyFrom(other.links);
            trials.copyFrom(other.trials);
            rules.copyFrom(other.rules);
            waiting.copyFrom(other.waiting);
            tape.copyFrom(other.tape);
            for (int use = 0; use < texts.length; use++) {
                texts[use].copyFrom(other.texts[use]);
            }
            drawn = other.drawn;
        }

        int draw(int below) {
            drawn = drawn * 1103515245 + 12345;
            return below < 1 ? 0 : (drawn >>> 16) % below;
        }

        int addCurve(int kind, int paper, int machine, int size, int madeOf) {
            int number = curves.add();
            curves.set(number, OF_KIND, kind);
            curves.set(number, IN_PAPER, paper);
            curves.set(number, OF_MACHINE, machine);
            curves.set(number, SIZE, size);
            curves.set(number, MADE_OF, madeOf);
            return number;
        }

        int curvesIn(int paper) {
            int many = 0;
            for (int c = 0; c < curves.count; c++) {
                many += curves.at(c, IN_PAPER) == paper ? 1 : 0;
            }
            return many;
        }

        int size(int curve) {
            return curves.at(curve, SIZE);
        }

        /** How many POINTS stand from POINT i on, or from it down to 0. */
        int roomFrom(int curve, int i, int back) {
            if (i < 0 || i >= size(curve)) {
                return 0;
            }
            return back == 1 ? i + 1 : size(curve) - i;
        }

        int pointAt(int curve, int j) {
            boolean stands = curve >= 0 && curve < MOST_CURVES && j >= 0 && j < MOST_POINTS;
            return stands ? points[curve * MOST_POINTS + j] : 0;
        }

        void setPoint(int curve, int j, int v) {
            if (curve >= 0 && curve < MOST_CURVES && j >= 0 && j < MOST_POINTS) {
                points[curve * MOST_POINTS + j] = v;
            }
        }

        int hairAt(int curve, int j) {
            return pointAt(curve, j - 1) + pointAt(curve, j + 1) - 2 * pointAt(curve, j);
        }

        int dayOf(int curve) {
            return papers.at(curves.at(curve, IN_PAPER), DAY);
        }

        int namesOf(int curve) {
            return papers.at(curves.at(curve, IN_PAPER), NAMES);
        }
    }

    /** Reads a TEXT byte by byte and works it out on the way. Once it has failed, at is the FAULT. */
    private static final class Reader {
        static final int END = -1;
        static final int MOST_OPEN = 5;
        static final int INNERMOST = 4;

        Bytes bytes = null;
        int use = 0;
        int a = 0;
        int b = 0;
        int c = 0;
        int at = 0;
        int signs = 0;
        boolean failed = false;

        int read(Bytes text, int forUse, int first, int second, int third) {
            bytes = text;
            use = forUse;
            a = first;
            b = second;
            c = third;
            at = 0;
            signs = 0;
            failed = false;
            int answer = choice(0);
            if (next() != END) {
                failed = true;
            }
            return answer;
        }

        private int next() {
            return failed || bytes == null || at >= bytes.size || at >= Bytes.MOST ? END : bytes.row[at] & 255;
        }

        private boolean takes(int wanted) {
            if (next() != wanted) {
                return false;
            }
            at++;
            return true;
        }

        private void wants(int wanted) {
            if (!takes(wanted)) {
                failed = true;
            }
        }

        private int choice(int open) {
            int first = joined(0, open);
            if (!takes('?')) {
                return first;
            }
            signs++;
            int second = joined(0, open);
            wants(':');
            int third = failed ? 0 : joined(0, open);
            return first != 0 ? second : third;
        }

        /** What stands between signs that bind less than those of a level: & |, then < = >, then + -, then * / %. */
        private int joined(int level, int open) {
            if (level >= INNERMOST) {
                return unit(open);
            }
            int left = joined(level + 1, open);
            int most = level == 1 ? 1 : Bytes.MOST;
            for (int k = 0; k < most && levelOf(next()) == level; k++) {
                int sign = next();
                at++;
                signs++;
                left = join(sign, left, joined(level + 1, open));
            }
            return left;
        }

        private static int levelOf(int sign) {
            switch (sign) {
                case '&': case '|': return 0;
                case '<': case '=': case '>': return 1;
                case '+': case '-': return 2;
                case '*': case '/': case '%': return 3;
                default: return -1;
            }
        }

        private static int join(int sign, int left, int right) {
            switch (sign) {
                case '&': return left != 0 && right != 0 ? 1 : 0;
                case '|': return left != 0 || right != 0 ? 1 : 0;
                case '<': return left < right ? 1 : 0;
                case '=': return left == right ? 1 : 0;
                case '>': return left > right ? 1 : 0;
                case '+': return left + right;
                case '-': return left - right;
                case '*': return left * right;
                case '/': return right == 0 ? 0 : left / right;
                default: return right == 0 ? 0 : left % right;
            }
        }

        private int unit(int open) {
            int sign = next();
            if (isDigit(sign)) {
                return number();
            }
            int name = sign == END ? -1 : names().indexOf((char) sign);
            if (name >= 0) {
                at++;
                return name == 0 ? a : name == 1 ? b : c;
            }
            if (open >= MOST_OPEN || sign != '-' && sign != '(') {
                failed = true;
                return 0;
            }
            at++;
            if (sign == '-') {
                signs++;
                return -unit(open + 1);
            }
            int inner = choice(open + 1);
            wants(')');
            return inner;
        }

        private static boolean isDigit(int sign) {
            return sign >= '0' && sign <= '9';
        }

        private int number() {
            int v = 0;
            for (int k = 0; k < 4 && isDigit(next()); k++) {
                v = v * 10 + next() - '0';
                at++;
            }
            return v;
        }

        private String names() {
            switch (use) {
                case LAW: return "xmd";
                case BAD: return "md";
                default: return "hpd";
            }
        }
    }

    /** BENDINGS of one CURVE to another, each told as its place in their order. */
    private static final class Bends {
        static final int FACTORS = MOST_FACTOR + 1;

        /**
         * The BENDING that begins at POINT i of a, or -1. There is one at most: the first of a's POINTS that is unlike
         * POINT i settles TURNED, up and down.
         */
        private static int startingAt(State s, int a, int b, int f, int back, int i) {
            int n = s.size(b);
            if (n > (back == 1 ? i + 1 : s.size(a) - i)) {
                return -1;
            }
            int way = back == 1 ? -1 : 1;
            int up = 0;
            int down = 0;
            for (int j = 1; j < n; j++) {
                int ofA = s.pointAt(a, i + way * j) - s.pointAt(a, i);
                int ofB = s.pointAt(b, j) - s.pointAt(b, 0);
                if ((ofA == 0) != (ofB == 0)) {
                    return -1;
                }
                if (down == 0 && ofA != 0) {
                    int divisor = divisorOfBoth(Math.abs(ofA), Math.abs(ofB));
                    up = (ofA > 0 ? ofB : -ofB) / divisor;
                    down = Math.abs(ofA) / divisor;
                }
                if (Math.abs(up) > f || down > f || down * ofB != up * ofA) {
                    return -1;
                }
            }
            int turned = up < 0 ? 1 : 0;
            int order = ((back * 2 + turned) * FACTORS + Math.abs(up)) * FACTORS + down;
            return down == 0 ? -1 : order * MOST_POINTS + i;
        }

        /** Of numbers above 0 the greatest divisor of both. */
        static int divisorOfBoth(int a, int b) {
            int greater = Math.max(1, a);
            int rest = b;
            for (int k = 0; k < 64 && rest > 0; k++) {
                int next = greater % rest;
                greater = rest;
                rest = next;
            }
            return greater;
        }

        static int howMany(State s, int a, int b, int f) {
            int many = 0;
            for (int back = 0; back < 2; back++) {
                for (int i = 0; i < s.size(a); i++) {
                    many += startingAt(s, a, b, f, back, i) >= 0 ? 1 : 0;
                }
            }
            return many;
        }

        /** The first BENDING of a to b, or -1. */
        static int first(State s, int a, int b, int f) {
            int least = -1;
            for (int back = 0; back < 2; back++) {
                for (int i = 0; i < s.size(a); i++) {
                    int found = startingAt(s, a, b, f, back, i);
                    if (found >= 0 && (least < 0 || found < least)) {
                        least = found;
                    }
                }
            }
            return least;
        }

        /** BACK (1), TURNED, up, down, i (5) of a BENDING. */
        static int part(int bending, int what) {
            int downOn = bending / MOST_POINTS;
            int upOn = downOn / FACTORS;
            int turnedOn = upOn / FACTORS;
            switch (what) {
                case 1: return turnedOn / 2;
                case 2: return turnedOn % 2;
                case 3: return upOn % FACTORS;
                case 4: return downOn % FACTORS;
                default: return bending % MOST_POINTS;
            }
        }

        /** CURVES of which one COULD come, as bits. */
        static int origins(State s, int curve, int f) {
            int bits = 0;
            for (int a = 0; a < s.curves.count; a++) {
                boolean ahead = s.dayOf(a) < s.dayOf(curve) || s.dayOf(a) == s.dayOf(curve) && a < curve;
                if (ahead && (s.namesOf(a) & s.namesOf(curve)) != 0 && first(s, a, curve, f) >= 0) {
                    bits |= 1 << a;
                }
            }
            return bits;
        }
    }

    /** The VOICES of the KINDS, and THE TRACE of the latest one. */
    private static final class Voices {
        static final int SHOWS = 0;
        static final int BARS = 1;
        static final int LEANS = 2;
        static final int TELLS = 3;
        static final int ACTS = 4;
        static final int MOST_BODIES = 30;
        static final int MOST_DEPTH = 40;

        static final int[] ABOVE = {-1, 0, 1, 0, 0, 3, 1, 4};
        // A row of four acts for each KIND; 0: the KIND above has the BODY.
        static final int[] BODIES = {
            10, 11, 12, 13,
            0, 20, 21, 0,
            30, 31, 0, 0,
            40, 0, 0, 41,
            0, 0, 50, 0,
            60, 0, 61, 0,
            0, 0, 70, 0,
            0, 0, 0, 80,
        };

        final int[] bodies = new int[MOST_BODIES];
        int begun = 0;
        boolean parted = false;
        int kind = 0;
        int n = 0;
        int p = 0;

        static boolean isUnder(int kind, int above) {
            int at = kind;
            for (int k = 0; k < ABOVE.length && at >= 0 && at < ABOVE.length; k++) {
                if (at == above) {
                    return true;
                }
                at = ABOVE[at];
            }
            return false;
        }

        int speak(int ofKind, int number, int points, int act, int x) {
            kind = ofKind;
            n = number;
            p = points;
            begun = 0;
            parted = false;
            return voiceFrom(kind, act, x, 0);
        }

        /** The BODY of a KIND, or of the next KIND above that has one. Nothing begins behind a PARTED one. */
        private int voiceFrom(int from, int act, int x, int depth) {
            int at = from;
            for (int k = 0; k < ABOVE.length && at > 0 && at < ABOVE.length && BODIES[at * ACTS + act] == 0; k++) {
                at = ABOVE[at];
            }
            if (parted || depth > MOST_DEPTH || at < 0 || at >= ABOVE.length) {
                return 0;
            }
            int body = BODIES[at * ACTS + act];
            if (begun < MOST_BODIES) {
                bodies[begun] = body;
                begun++;
            }
            return at == 0 ? ofCurve(act, x, depth + 1) : ofKindUnder(body, ABOVE[at], x, depth + 1);
        }

        private int ofCurve(int act, int x, int depth) {
            switch (act) {
                case SHOWS: return x + p;
                case BARS: return voiceFrom(kind, SHOWS, x, depth) * 2;
                case LEANS: return voiceFrom(kind, BARS, x, depth) - n;
                default:
                    parted = p == n;
                    return parted ? 0 : x / (p - n);
            }
        }

        private int ofKindUnder(int body, int above, int x, int depth) {
            switch (body) {
                case 20: return voiceFrom(above, BARS, x, depth) + 3;
                case 21: return voiceFrom(above, LEANS, x, depth) ^ p;
                case 30: return voiceFrom(above, SHOWS, x, depth) / 2;
                case 31: return voiceFrom(above, BARS, x - 1, depth);
                case 40: return 0 - voiceFrom(above, SHOWS, x, depth);
                case 41: return voiceFrom(above, TELLS, x, depth) + voiceFrom(kind, LEANS, 1, depth);
                case 50: return voiceFrom(above, LEANS, x, depth) * 3;
                case 60: return voiceFrom(above, SHOWS, x + n, depth);
                case 61: return voiceFrom(above, LEANS, x, depth) - voiceFrom(kind, SHOWS, 2, depth);
                case 70: return voiceFrom(above, LEANS, x, depth) + voiceFrom(kind, BARS, n, depth);
                case 80: return voiceFrom(kind, LEANS, x, depth) - voiceFrom(above, TELLS, x, depth);
                default: return 0;
            }
        }
    }

    /** A row of numbers of so many bits; of 0 bits it is missing. */
    private static final class Sheet {
        static final int MOST = 24;

        final int[] row = new int[MOST];
        int bits = 0;
        int size = 0;

        static boolean isWidth(int bits) {
            return bits == 0 || bits == 8 || bits == 16 || bits == 32;
        }

        boolean isMissing() {
            return bits == 0;
        }

        void become(int ofBits, int numbers) {
            bits = ofBits;
            size = Math.max(0, Math.min(MOST, numbers));
            for (int i = 0; i < MOST; i++) {
                row[i] = 0;
            }
        }

        /** Whether n numbers stand there from number i on. Never adds i and n, which may be as great as an int. */
        boolean holds(int i, int n) {
            return i >= 0 && n >= 0 && n <= size && i <= size - n;
        }

        int at(int i) {
            return holds(i, 1) ? row[i] : 0;
        }

        void set(int i, int v) {
            if (holds(i, 1)) {
                row[i] = bits == 8 ? (byte) v : bits == 16 ? (short) v : v;
            }
        }
    }
}
