import java.util.NoSuchElementException;

/** Stacks of balls in close layers, as shared/DOC.md promises. */
public final class ClosePacking {
    public static final int NONE = -1;

    private static final int NO_ANSWER = -2;
    private static final int NO_SUM = -100;
    private static final int NO_ENERGY = -1000000;

    private static final int GRANTED = 0;
    private static final int NO_SUCH = 1;
    private static final int WRONG_NUMBER = 2;
    private static final int NO_ROOM = 3;
    private static final int FAULTY = 4;
    private static final int NOT_SO = 5;
    private static final int NOTHING_LEFT = 6;

    private static final int FEWEST_STEPS = 2;
    private static final int MOST_STEPS = 12;
    private static final int MOST_LAYERS = 36;
    private static final int MOST_STACKS = 5;
    private static final int MOST_UNSURE = 4;
    private static final int MOST_AGREED = 6;
    private static final int MOST_ACTS = 16;
    private static final int MOST_IMAGES = 3;
    private static final int MOST_GROWN = 8;
    private static final int MOST_RUN_STEPS = 200;
    private static final int LAST_SEED = 65536;
    private static final int LAST_HOW = 3;

    private final Tape tape;
    private final Reader reader;
    private final Stacks now;
    private final Acts acts;
    private final Images images;
    private final Lines lines;
    private final Landscape landscape;
    /** What holds now, and what a text is read into: they change places when a text is without a fault. */
    private Lab told;
    private Lab draft;
    private int latestTrouble;
    private int latestFault;
    private int faultPlace;

    public ClosePacking() {
        tape = new Tape();
        reader = new Reader(tape);
        now = new Stacks();
        acts = new Acts();
        images = new Images();
        lines = new Lines();
        landscape = new Landscape();
        told = new Lab();
        draft = new Lab();
    }

    // ---- the lab

    public int feed(int a, int b, int c, int d, int e) {
        if (!tape.hasRoom(20)) {
            return NONE;
        }
        tape.addNumber(a);
        tape.addNumber(b);
        tape.addNumber(c);
        tape.addNumber(d);
        tape.addNumber(e);
        return tape.length;
    }

    public int lab(int n) {
        if (n < 0 || n > tape.length) {
            return refused(WRONG_NUMBER, NONE);
        }
        boolean read = reader.reads(draft, n);
        tape.length = 0;
        latestFault = reader.fault;
        faultPlace = reader.place;
        if (!read) {
            return refused(FAULTY, NONE);
        }
        Lab former = told;
        told = draft;
        draft = former;
        now.copy(told.stacks);
        acts.count = 0;
        images.count = 0;
        return granted(now.count);
    }

    public int fault() {
        return latestFault;
    }

    public int where() {
        return latestTrouble == FAULTY ? faultPlace : NONE;
    }

    // ---- a stack

    public int stack(int s, int what) {
        if (lacks(s) || what < 0 || what > 5) {
            return refused(NO_SUCH, NONE);
        }
        int row = now.row(s);
        int n = now.steps(s);
        switch (what) {
            case 0:
                return granted(n);
            case 1:
                return granted(row);
            case 2:
                return granted(Row.repeatsAfter(row, n));
            case 3:
                return granted(Row.period(row, n));
            case 4:
                return granted(Row.hexes(row, n));
            default:
                return granted(Row.runs(row, n));
        }
    }

    public int sum(int s) {
        if (lacks(s)) {
            return refused(NO_SUCH, NO_SUM);
        }
        return granted(Row.total(now.row(s), now.steps(s)));
    }

    public int layer(int s, int k) {
        if (lacks(s)) {
            return refused(NO_SUCH, NONE);
        }
        if (k < 0 || k >= MOST_LAYERS) {
            return refused(WRONG_NUMBER, NONE);
        }
        return granted(Row.letterAt(now.row(s), now.steps(s), k));
    }

    public int hex(int s, int k) {
        if (lacks(s)) {
            return refused(NO_SUCH, NONE);
        }
        if (k < 0 || k >= MOST_LAYERS) {
            return refused(WRONG_NUMBER, NONE);
        }
        int n = now.steps(s);
        int begunThere = Row.turnedBy(now.row(s), n, k);
        return granted(Row.beginsRun(begunThere, n) ? 1 : 0);
    }

    public int run(int s, int i) {
        if (lacks(s)) {
            return refused(NO_SUCH, NONE);
        }
        int row = now.row(s);
        int n = now.steps(s);
        if (i < 0 || i >= Row.runs(row, n)) {
            return refused(NO_SUCH, NONE);
        }
        return granted(Row.runLength(row, n, i));
    }

    public int agree(int s, int m) {
        if (lacks(s)) {
            return refused(NO_SUCH, NONE);
        }
        if (m < 1 || m > MOST_LAYERS) {
            return refused(WRONG_NUMBER, NONE);
        }
        return granted(Row.layersAlike(now.row(s), now.steps(s), m));
    }

    public long share(int s, boolean lower) {
        if (lacks(s)) {
            return refused(NO_SUCH, NONE);
        }
        int n = now.steps(s);
        return grantedPart(Row.hexes(now.row(s), n), n, lower);
    }

    public int energy(int s) {
        if (lacks(s)) {
            return refused(NO_SUCH, NO_ENERGY);
        }
        return granted(told.energyOf(now.row(s), now.steps(s)));
    }

    public int calmest() {
        if (!told.complete) {
            return refused(NO_SUCH, NONE);
        }
        int best = 0;
        int bestEnergy = told.energyOf(now.row(0), now.steps(0));
        for (int s = 1; s < now.count; s++) {
            int itsEnergy = told.energyOf(now.row(s), now.steps(s));
            if (itsEnergy * now.steps(best) < bestEnergy * now.steps(s)) {
                best = s;
                bestEnergy = itsEnergy;
            }
        }
        return granted(best);
    }

    // ---- lines

    public int out(int s, int l) {
        if (lacks(s)) {
            return refused(NO_SUCH, NONE);
        }
        int row = now.row(s);
        int n = now.steps(s);
        if (l < 0 || l >= Row.repeatsAfter(row, n)) {
            return refused(WRONG_NUMBER, NONE);
        }
        return granted(lines.goesOut(row, n, l) ? 1 : 0);
    }

    public int outs(int s) {
        if (lacks(s)) {
            return refused(NO_SUCH, NONE);
        }
        int row = now.row(s);
        int n = now.steps(s);
        int count = 0;
        for (int l = 0; l < Row.repeatsAfter(row, n); l++) {
            count += lines.goesOut(row, n, l) ? 1 : 0;
        }
        return granted(count);
    }

    public int firstLine(int s) {
        if (lacks(s)) {
            return refused(NO_SUCH, NONE);
        }
        int row = now.row(s);
        int n = now.steps(s);
        for (int l = 1; l < Row.repeatsAfter(row, n); l++) {
            if (!lines.goesOut(row, n, l)) {
                return granted(l);
            }
        }
        return granted(NO_ANSWER);
    }

    public int sameLines(int s, int t) {
        if (lacks(s) || lacks(t)) {
            return refused(NO_SUCH, NONE);
        }
        int repeats = Row.repeatsAfter(now.row(s), now.steps(s));
        if (repeats != Row.repeatsAfter(now.row(t), now.steps(t))) {
            return refused(NOT_SO, NONE);
        }
        for (int l = 0; l < repeats; l++) {
            boolean first = lines.goesOut(now.row(s), now.steps(s), l);
            boolean second = lines.goesOut(now.row(t), now.steps(t), l);
            if (first != second) {
                return granted(0);
            }
        }
        return granted(1);
    }

    // ---- rows of least energy

    public int ground(int n) {
        if (lacksGround(n)) {
            return refused(groundTrouble(), NO_ENERGY);
        }
        landscape.survey(told, n);
        return granted(landscape.lowest());
    }

    public int groundRow(int n) {
        if (lacksGround(n)) {
            return refused(groundTrouble(), NONE);
        }
        landscape.survey(told, n);
        return granted(landscape.lowestRow());
    }

    public int groundMany(int n) {
        if (lacksGround(n)) {
            return refused(groundTrouble(), NONE);
        }
        landscape.survey(told, n);
        return granted(landscape.lowestMany());
    }

    public int groundBest() {
        if (!told.complete) {
            return refused(NO_SUCH, NONE);
        }
        int best = FEWEST_STEPS;
        int bestEnergy = 0;
        for (int n = FEWEST_STEPS; n <= MOST_STEPS; n++) {
            landscape.survey(told, n);
            int itsEnergy = landscape.lowest();
            if (n == FEWEST_STEPS || itsEnergy * best < bestEnergy * n) {
                best = n;
                bestEnergy = itsEnergy;
            }
        }
        return granted(best);
    }

    private boolean lacksGround(int n) {
        return !told.complete || n < FEWEST_STEPS || n > MOST_STEPS;
    }

    private int groundTrouble() {
        return told.complete ? WRONG_NUMBER : NO_SUCH;
    }

    // ---- kinds

    public int kinds(int n, int how, boolean closed) {
        if (!told.complete) {
            return refused(NO_SUCH, NONE);
        }
        if (n < 1 || n > MOST_STEPS || isNoHow(how)) {
            return refused(WRONG_NUMBER, NONE);
        }
        int count = 0;
        for (int row = 0; row <= Row.all(n); row++) {
            boolean counts = !closed || Row.closes(row, n);
            count += counts && Row.isLeastAlike(row, n, how) ? 1 : 0;
        }
        return granted(count);
    }

    public int alike(int s, int t, int how) {
        if (lacks(s) || lacks(t)) {
            return refused(NO_SUCH, NONE);
        }
        if (isNoHow(how)) {
            return refused(WRONG_NUMBER, NONE);
        }
        int n = now.steps(s);
        if (n != now.steps(t)) {
            return granted(0);
        }
        int first = Row.leastAlike(now.row(s), n, how);
        return granted(first == Row.leastAlike(now.row(t), n, how) ? 1 : 0);
    }

    public int least(int s, int how) {
        if (lacks(s)) {
            return refused(NO_SUCH, NONE);
        }
        if (isNoHow(how)) {
            return refused(WRONG_NUMBER, NONE);
        }
        return granted(Row.leastAlike(now.row(s), now.steps(s), how));
    }

    public int manyAlike(int s, int how) {
        if (lacks(s)) {
            return refused(NO_SUCH, NONE);
        }
        if (isNoHow(how)) {
            return refused(WRONG_NUMBER, NONE);
        }
        return granted(Row.countAlike(now.row(s), now.steps(s), how));
    }

    private static boolean isNoHow(int how) {
        return how < 0 || how > LAST_HOW;
    }

    // ---- slips

    public int slips(int s, int t, int how) {
        if (lacks(s) || lacks(t)) {
            return refused(NO_SUCH, NONE);
        }
        if (isNoHow(how)) {
            return refused(WRONG_NUMBER, NONE);
        }
        int n = now.steps(s);
        if (n != now.steps(t)) {
            return granted(NO_ANSWER);
        }
        return granted(Row.fewestSlips(now.row(s), now.row(t), n, how));
    }

    public int slipEnergy(int s, int k) {
        if (lacks(s)) {
            return refused(NO_SUCH, NO_ENERGY);
        }
        int n = now.steps(s);
        if (k < 0 || k >= n) {
            return refused(WRONG_NUMBER, NO_ENERGY);
        }
        return granted(told.energyOf(now.row(s) ^ Row.bit(n, k), n));
    }

    public int weakest(int s) {
        if (lacks(s)) {
            return refused(NO_SUCH, NONE);
        }
        return granted(told.weakestStep(now.row(s), now.steps(s)));
    }

    public int relax(int s) {
        if (lacks(s)) {
            return refused(NO_SUCH, NONE);
        }
        landscape.settle(told, now.row(s), now.steps(s));
        return granted(landscape.slipsToRest);
    }

    public int relaxed(int s) {
        if (lacks(s)) {
            return refused(NO_SUCH, NONE);
        }
        landscape.settle(told, now.row(s), now.steps(s));
        return granted(landscape.rowAtRest);
    }

    public int pass(int s, int t) {
        if (lacks(s) || lacks(t)) {
            return refused(NO_SUCH, NO_ENERGY);
        }
        int n = now.steps(s);
        if (n != now.steps(t)) {
            return refused(NOT_SO, NO_ENERGY);
        }
        landscape.survey(told, n);
        return granted(landscape.lowestPass(now.row(s), now.row(t)));
    }

    public int valley(int s) {
        if (lacks(s)) {
            return refused(NO_SUCH, NONE);
        }
        int n = now.steps(s);
        int row = now.row(s);
        landscape.survey(told, n);
        return granted(landscape.flood(row, told.energyOf(row, n)));
    }

    public int faultEnergy(int s, int k) {
        if (lacks(s)) {
            return refused(NO_SUCH, NO_ENERGY);
        }
        int n = now.steps(s);
        if (k < 1 || k >= n) {
            return refused(WRONG_NUMBER, NO_ENERGY);
        }
        return granted(told.energyOf(Row.otherFrom(now.row(s), n, k), n));
    }

    public int bestFault(int s) {
        if (lacks(s)) {
            return refused(NO_SUCH, NONE);
        }
        int row = now.row(s);
        int n = now.steps(s);
        int best = 1;
        int bestEnergy = told.energyOf(Row.otherFrom(row, n, 1), n);
        for (int k = 2; k < n; k++) {
            int itsEnergy = told.energyOf(Row.otherFrom(row, n, k), n);
            if (itsEnergy < bestEnergy) {
                best = k;
                bestEnergy = itsEnergy;
            }
        }
        return granted(best);
    }

    public int differs(int s, int t) {
        if (lacks(s) || lacks(t)) {
            return refused(NO_SUCH, NONE);
        }
        int first = now.row(s);
        int second = now.row(t);
        int repeatsFirst = Row.repeatsAfter(first, now.steps(s));
        int repeatsSecond = Row.repeatsAfter(second, now.steps(t));
        for (int m = 1; m <= MOST_LAYERS; m++) {
            int alikeFirst = Row.layersAlike(first, now.steps(s), m);
            int alikeSecond = Row.layersAlike(second, now.steps(t), m);
            if (alikeFirst * repeatsSecond != alikeSecond * repeatsFirst) {
                return granted(m);
            }
        }
        return granted(NO_ANSWER);
    }

    // ---- unsure steps

    public int fits() {
        if (!told.complete) {
            return refused(NO_SUCH, NONE);
        }
        return granted(Integer.bitCount(Fits.of(told)));
    }

    public int fitAt(int i) {
        if (!told.complete) {
            return refused(NO_SUCH, NONE);
        }
        int set = Fits.setAt(Fits.of(told), i);
        return set == NONE ? refused(NO_SUCH, NONE) : granted(set);
    }

    public int could() {
        if (!told.complete) {
            return refused(NO_SUCH, NONE);
        }
        return granted(Fits.inSome(Fits.of(told)));
    }

    public int surely() {
        if (!told.complete) {
            return refused(NO_SUCH, NONE);
        }
        return granted(Fits.inAll(Fits.of(told)));
    }

    public int ask() {
        if (!told.complete) {
            return refused(NO_SUCH, NONE);
        }
        return granted(Fits.bestQuestion(Fits.of(told), told.unsureCount));
    }

    public int askLeaves() {
        if (!told.complete) {
            return refused(NO_SUCH, NONE);
        }
        int sets = Fits.of(told);
        int question = Fits.bestQuestion(sets, told.unsureCount);
        return granted(question < 0 ? NO_ANSWER : Fits.mostLeft(sets, question));
    }

    public int judge() {
        if (!told.complete) {
            return refused(NO_SUCH, NONE);
        }
        for (int i = 0; i < told.agreedCount; i++) {
            if (!Fits.isSo(told, i, 0)) {
                return granted(i);
            }
        }
        return granted(NO_ANSWER);
    }

    // ---- growth

    public long odds(int n, int changes, boolean lower) {
        if (!told.complete) {
            return refused(NO_SUCH, NONE);
        }
        if (n < 1 || n > MOST_GROWN || changes < 0 || changes >= MOST_GROWN) {
            return refused(WRONG_NUMBER, NONE);
        }
        long upper = Growth.upToChanges(told.growth, n, changes);
        return grantedPart(upper, Growth.power(Growth.WHOLE, n - 1), lower);
    }

    public long rowOdds(int s, boolean lower) {
        if (lacks(s)) {
            return refused(NO_SUCH, NONE);
        }
        int n = now.steps(s);
        if (n > MOST_GROWN) {
            return refused(NOT_SO, NONE);
        }
        int changes = Row.changes(now.row(s), n);
        long upper = Growth.withChanges(told.growth, n, changes);
        return grantedPart(upper, Growth.power(Growth.WHOLE, n - 1), lower);
    }

    public long meanSum(int n, boolean lower) {
        if (!told.complete) {
            return refused(NO_SUCH, NO_ENERGY);
        }
        if (n < 1 || n > MOST_GROWN) {
            return refused(WRONG_NUMBER, NO_ENERGY);
        }
        long upper = Growth.meanTotal(told.growth, n);
        return grantedPart(upper, Growth.power(Growth.WHOLE, n - 1), lower);
    }

    public int grown(int seed, int n) {
        if (!told.complete) {
            return refused(NO_SUCH, NONE);
        }
        if (isNoSeed(seed) || n < 1 || n > MOST_STEPS) {
            return refused(WRONG_NUMBER, NONE);
        }
        return granted(Growth.rowBy(told.growth, seed, n));
    }

    public int longestRun(int seed, int n) {
        if (!told.complete) {
            return refused(NO_SUCH, NONE);
        }
        if (isNoSeed(seed) || n < 1 || n > MOST_RUN_STEPS) {
            return refused(WRONG_NUMBER, NONE);
        }
        return granted(Growth.longestBy(told.growth, seed, n));
    }

    private static boolean isNoSeed(int seed) {
        return seed < 0 || seed > LAST_SEED;
    }

    // ---- acts

    public int slip(int s, int k) {
        if (lacks(s)) {
            return refused(NO_SUCH, NONE);
        }
        int n = now.steps(s);
        if (k < 0 || k >= n) {
            return refused(WRONG_NUMBER, NONE);
        }
        change(s, now.row(s) ^ Row.bit(n, k), n);
        return granted(now.row(s));
    }

    public int turn(int s) {
        if (lacks(s)) {
            return refused(NO_SUCH, NONE);
        }
        int n = now.steps(s);
        change(s, Row.turned(now.row(s), n), n);
        return granted(now.row(s));
    }

    public int twin(int s) {
        if (lacks(s)) {
            return refused(NO_SUCH, NONE);
        }
        int n = now.steps(s);
        change(s, Row.twinned(now.row(s), n), n);
        return granted(now.row(s));
    }

    public int grow(int s, boolean up) {
        if (lacks(s)) {
            return refused(NO_SUCH, NONE);
        }
        int n = now.steps(s);
        if (n >= MOST_STEPS) {
            return refused(NO_ROOM, NONE);
        }
        change(s, now.row(s) * 2 + (up ? 1 : 0), n + 1);
        return granted(n + 1);
    }

    public int cut(int s) {
        if (lacks(s)) {
            return refused(NO_SUCH, NONE);
        }
        int n = now.steps(s);
        if (n <= FEWEST_STEPS) {
            return refused(NOT_SO, NONE);
        }
        change(s, now.row(s) >> 1, n - 1);
        return granted(n - 1);
    }

    public boolean undo() {
        if (acts.count == 0) {
            latestTrouble = NOTHING_LEFT;
            return false;
        }
        acts.takeBack(now);
        latestTrouble = GRANTED;
        return true;
    }

    public int image() {
        if (!told.complete) {
            return refused(NO_SUCH, NONE);
        }
        if (images.count >= MOST_IMAGES) {
            return refused(NO_ROOM, NONE);
        }
        return granted(images.keep(now));
    }

    public boolean back(int image) {
        if (image < 0 || image >= images.count) {
            latestTrouble = NO_SUCH;
            return false;
        }
        images.bring(image, now);
        acts.count = 0;
        latestTrouble = GRANTED;
        return true;
    }

    private void change(int s, int row, int n) {
        acts.keep(s, now.row(s), now.steps(s));
        now.put(s, row, n);
    }

    // ---- what is told

    public int led(int i) throws NoSuchElementException {
        int found = 0;
        for (int s = 0; s < now.count; s++) {
            if (!Row.closes(now.row(s), now.steps(s))) {
                if (found == i) {
                    return s;
                }
                found++;
            }
        }
        throw new NoSuchElementException("no such stack");
    }

    public int size(int what) {
        switch (what) {
            case 0:
                return told.complete ? told.near + 100 : 0;
            case 1:
                return told.complete ? told.second + 100 : 0;
            case 2:
                return told.complete ? told.third + 100 : 0;
            case 3:
                return told.growth;
            case 4:
                return now.count;
            case 5:
                return told.unsureCount;
            case 6:
                return told.agreedCount;
            case 7:
                return acts.count;
            case 8:
                return images.count;
            case 9:
                return tape.length;
            default:
                return NONE;
        }
    }

    public int trouble() {
        return latestTrouble;
    }

    private boolean lacks(int s) {
        return s < 0 || s >= now.count;
    }

    private int refused(int number, int answer) {
        latestTrouble = number;
        return answer;
    }

    private int granted(int answer) {
        latestTrouble = GRANTED;
        return answer;
    }

    private long grantedPart(long upper, long lower, boolean wantsLower) {
        latestTrouble = GRANTED;
        long common = commonMeasure(Math.abs(upper), lower);
        if (common <= 0) {
            return 0;
        }
        return wantsLower ? lower / common : upper / common;
    }

    private static long commonMeasure(long a, long b) {
        long larger = a;
        long smaller = b;
        // Euclid's rests at least halve every other time: a long is through in far fewer rounds.
        for (int round = 0; round < 200 && smaller != 0; round++) {
            long rest = larger % smaller;
            larger = smaller;
            smaller = rest;
        }
        return larger;
    }

    private static int at(int[] list, int i) {
        return i >= 0 && i < list.length ? list[i] : 0;
    }

    private static void set(int[] list, int i, int value) {
        if (i >= 0 && i < list.length) {
            list[i] = value;
        }
    }

    /** What rows of n steps (1 to 12) are like; a row is a whole, its first step's bit the highest of n. */
    private static final class Row {
        static int all(int n) {
            return (1 << n) - 1;
        }

        static int bit(int n, int k) {
            return 1 << (n - 1 - k);
        }

        static boolean startsUp(int row, int n) {
            return (row >> (n - 1) & 1) != 0;
        }

        static int turned(int row, int n) {
            int behind = row & ((1 << (n - 1)) - 1);
            return behind << 1 | row >> (n - 1);
        }

        static int turnedBy(int row, int n, int steps) {
            int result = row;
            for (int i = 0; i < steps; i++) {
                result = turned(result, n);
            }
            return result;
        }

        static int twinned(int row, int n) {
            return row ^ all(n);
        }

        static int fromBelow(int row, int n) {
            int reversed = 0;
            for (int k = 0; k < n; k++) {
                reversed = reversed * 2 + ((row >> k) & 1);
            }
            return twinned(reversed, n);
        }

        static int otherFrom(int row, int n, int k) {
            return row ^ all(n - k);
        }

        static int total(int row, int n) {
            return 2 * Integer.bitCount(row) - n;
        }

        static boolean closes(int row, int n) {
            return total(row, n) % 3 == 0;
        }

        static int repeatsAfter(int row, int n) {
            return total(row, n) % 3 == 0 ? n : 3 * n;
        }

        static int period(int row, int n) {
            int turning = turned(row, n);
            for (int steps = 1; steps < n; steps++) {
                if (turning == row) {
                    return steps;
                }
                turning = turned(turning, n);
            }
            return n;
        }

        static int hexes(int row, int n) {
            return Integer.bitCount(row ^ turned(row, n));
        }

        static int runs(int row, int n) {
            return Math.max(1, hexes(row, n));
        }

        /** Whether the first step is the other way than the last one. */
        static boolean beginsRun(int row, int n) {
            return startsUp(row, n) != ((row & 1) != 0);
        }

        static int runLength(int row, int n, int i) {
            if (hexes(row, n) == 0) {
                return n;
            }
            int begun = 0;
            int turning = row;
            for (int k = 0; k < n; k++) {
                if (beginsRun(turning, n)) {
                    if (begun == i) {
                        return stepsLikeFirst(turning, n);
                    }
                    begun++;
                }
                turning = turned(turning, n);
            }
            return NONE;
        }

        static int stepsLikeFirst(int row, int n) {
            boolean up = startsUp(row, n);
            int length = 1;
            while (length < n && (row >> (n - 1 - length) & 1) == (up ? 1 : 0)) {
                length++;
            }
            return length;
        }

        /** The changes from one step to the next, not going round. */
        static int changes(int row, int n) {
            return Integer.bitCount((row ^ (row >> 1)) & all(n - 1));
        }

        static int letterBehind(int letter, boolean up) {
            return (letter + (up ? 1 : 2)) % 3;
        }

        static int letterAt(int row, int n, int k) {
            int letter = 0;
            int turning = row;
            for (int i = 0; i < k; i++) {
                letter = letterBehind(letter, startsUp(turning, n));
                turning = turned(turning, n);
            }
            return letter;
        }

        static int layersAlike(int row, int n, int m) {
            int count = 0;
            int here = 0;
            int there = letterAt(row, n, m);
            int turningHere = row;
            int turningThere = turnedBy(row, n, m);
            for (int j = 0; j < repeatsAfter(row, n); j++) {
                count += here == there ? 1 : 0;
                here = letterBehind(here, startsUp(turningHere, n));
                there = letterBehind(there, startsUp(turningThere, n));
                turningHere = turned(turningHere, n);
                turningThere = turned(turningThere, n);
            }
            return count;
        }

        /** Of the ways 0 to 3 those that how has: 1 twins, 2 looks from below, 3 does both. */
        static boolean allows(int how, int way) {
            return (way & ~how) == 0;
        }

        static int inWay(int row, int n, int way) {
            int result = (way & 1) != 0 ? twinned(row, n) : row;
            return (way & 2) != 0 ? fromBelow(result, n) : result;
        }

        static int leastTurned(int row, int n) {
            int result = row;
            int turning = row;
            for (int k = 1; k < n; k++) {
                turning = turned(turning, n);
                result = Math.min(result, turning);
            }
            return result;
        }

        static int leastAlike(int row, int n, int how) {
            int result = row;
            for (int way = 0; way <= LAST_HOW; way++) {
                if (allows(how, way)) {
                    result = Math.min(result, leastTurned(inWay(row, n, way), n));
                }
            }
            return result;
        }

        /** Stops at the first lesser row: nearly all rows of a long count have one soon. */
        static boolean isLeastAlike(int row, int n, int how) {
            for (int way = 0; way <= LAST_HOW; way++) {
                int turning = inWay(row, n, way);
                for (int k = 0; k < n && allows(how, way); k++) {
                    if (turning < row) {
                        return false;
                    }
                    turning = turned(turning, n);
                }
            }
            return true;
        }

        static int countAlike(int row, int n, int how) {
            int classes = 0;
            for (int way = 0; way <= LAST_HOW; way++) {
                boolean isNew = allows(how, way);
                for (int former = 0; former < way && isNew; former++) {
                    isNew = !allows(how, former)
                            || leastTurned(inWay(row, n, former), n) != leastTurned(inWay(row, n, way), n);
                }
                classes += isNew ? 1 : 0;
            }
            return classes * period(row, n);
        }

        static int fewestSlips(int row, int other, int n, int how) {
            int fewest = n;
            for (int way = 0; way <= LAST_HOW; way++) {
                int turning = inWay(other, n, way);
                for (int k = 0; k < n && allows(how, way); k++) {
                    fewest = Math.min(fewest, Integer.bitCount(row ^ turning));
                    turning = turned(turning, n);
                }
            }
            return fewest;
        }
    }

    /** The bytes that were fed and not yet read. */
    private static final class Tape {
        static final int ROOM = 500;

        private final byte[] bytes = new byte[ROOM];
        private int length;

        boolean hasRoom(int more) {
            return length + more <= ROOM;
        }

        void addNumber(int number) {
            for (int shift = 24; shift >= 0; shift -= 8) {
                if (length >= 0 && length < bytes.length) {
                    bytes[length] = (byte) (number >> shift);
                    length++;
                }
            }
        }

        int byteAt(int i) {
            return i >= 0 && i < bytes.length ? bytes[i] & 255 : 0;
        }
    }

    /** Rows of up to five stacks. */
    private static final class Stacks {
        private final int[] rows = new int[MOST_STACKS];
        private final int[] lengths = new int[MOST_STACKS];
        private int count;

        int row(int s) {
            return at(rows, s);
        }

        int steps(int s) {
            return at(lengths, s);
        }

        void put(int s, int row, int n) {
            set(rows, s, row);
            set(lengths, s, n);
        }

        void copy(Stacks other) {
            count = other.count;
            for (int s = 0; s < MOST_STACKS; s++) {
                put(s, other.row(s), other.steps(s));
            }
        }
    }

    /** What a text tells. */
    private static final class Lab {
        private boolean complete;
        private int near;
        private int second;
        private int third;
        private int growth;
        private final Stacks stacks = new Stacks();
        private final long[] names = new long[MOST_STACKS];
        private int unsureCount;
        private final int[] unsureStacks = new int[MOST_UNSURE];
        private final int[] unsurePlaces = new int[MOST_UNSURE];
        private int agreedCount;
        private final int[] agreedStacks = new int[MOST_AGREED];
        private final int[] agreedDistances = new int[MOST_AGREED];
        private final int[] agreedLayers = new int[MOST_AGREED];

        void clear() {
            complete = false;
            stacks.count = 0;
            unsureCount = 0;
            agreedCount = 0;
        }

        int stackNamed(long name) {
            for (int s = 0; s < stacks.count && s < names.length; s++) {
                if (names[s] == name) {
                    return s;
                }
            }
            return NONE;
        }

        void addStack(long name, int row, int n) {
            int s = stacks.count;
            if (s >= 0 && s < names.length) {
                names[s] = name;
                stacks.put(s, row, n);
                stacks.count++;
            }
        }

        boolean isUnsure(int s, int place) {
            for (int i = 0; i < unsureCount; i++) {
                if (at(unsureStacks, i) == s && at(unsurePlaces, i) == place) {
                    return true;
                }
            }
            return false;
        }

        void addUnsure(int s, int place) {
            set(unsureStacks, unsureCount, s);
            set(unsurePlaces, unsureCount, place);
            unsureCount++;
        }

        boolean isAgreed(int s, int distance) {
            for (int i = 0; i < agreedCount; i++) {
                if (at(agreedStacks, i) == s && at(agreedDistances, i) == distance) {
                    return true;
                }
            }
            return false;
        }

        void addAgreed(int s, int distance, int layers) {
            set(agreedStacks, agreedCount, s);
            set(agreedDistances, agreedCount, distance);
            set(agreedLayers, agreedCount, layers);
            agreedCount++;
        }

        int energyOf(int row, int n) {
            int next = Row.turned(row, n);
            int secondNext = Row.turned(next, n);
            int thirdNext = Row.turned(secondNext, n);
            return -near * products(row, next, n)
                    - second * products(row, secondNext, n)
                    - third * products(row, thirdNext, n);
        }

        private static int products(int row, int other, int n) {
            return n - 2 * Integer.bitCount(row ^ other);
        }

        int weakestStep(int row, int n) {
            int best = 0;
            for (int k = 1; k < n; k++) {
                if (energyOf(row ^ Row.bit(n, k), n) < energyOf(row ^ Row.bit(n, best), n)) {
                    best = k;
                }
            }
            return best;
        }
    }

    /** Reads a text into a lab, token by token, up to its first fault. */
    private static final class Reader {
        private static final int END = 0;
        private static final int WORD = 1;
        private static final int WHOLE = 2;
        private static final int SIGN = 3;
        private static final int NO_TOKEN = 4;

        private static final int FORM = 1;
        private static final int NOT_TOLD = 2;
        private static final int TOLD_AGAIN = 3;
        private static final int OUT_OF_BOUNDS = 4;
        private static final int MANY = 5;
        private static final int LACKS = 6;
        private static final int NO_ROW = 7;

        private static final int MOST_LETTERS = 12;
        private static final int MOST_NAME_LETTERS = 8;
        private static final int MOST_DIGITS = 3;
        private static final int NO_ROW_TOLD = -1;

        private final Tape tape;
        private int end;
        private int next;
        private int kind;
        private int place;
        private int length;
        private int value;
        private long word;
        private int number;
        private int fault;

        Reader(Tape source) {
            tape = source;
        }

        boolean reads(Lab lab, int bytes) {
            lab.clear();
            fault = 0;
            end = bytes;
            next = 0;
            advance();
            // A line has more than one byte, so that the tape ends ahead of this count.
            for (int line = 0; line <= Tape.ROOM; line++) {
                if (!mayBegin(lab) || !readsLine(lab)) {
                    return false;
                }
                if (kind == END) {
                    return lab.stacks.count > 0 || fails(LACKS);
                }
                if (kind != SIGN || value != ';') {
                    return fails(FORM);
                }
                advance();
            }
            return fails(FORM);
        }

        private boolean fails(int number) {
            fault = number;
            return false;
        }

        /** Whether a line may begin with the token. */
        private boolean mayBegin(Lab lab) {
            if (isWord("lab")) {
                return !lab.complete || fails(TOLD_AGAIN);
            }
            boolean stack = isWord("stack");
            boolean unsure = isWord("unsure");
            boolean agreed = isWord("agreed");
            if (!stack && !unsure && !agreed) {
                return fails(FORM);
            }
            if (!lab.complete) {
                return fails(LACKS);
            }
            boolean full = stack && lab.stacks.count >= MOST_STACKS
                    || unsure && lab.unsureCount >= MOST_UNSURE
                    || agreed && lab.agreedCount >= MOST_AGREED;
            return !full || fails(MANY);
        }

        private boolean readsLine(Lab lab) {
            if (isWord("lab")) {
                return readsHead(lab);
            }
            if (isWord("stack")) {
                return readsStack(lab);
            }
            return isWord("unsure") ? readsUnsure(lab) : readsAgreed(lab);
        }

        private boolean readsHead(Lab lab) {
            advance();
            if (!takesWord("near") || !takesNumber()) {
                return false;
            }
            lab.near = number;
            if (!takesWord("second") || !takesNumber()) {
                return false;
            }
            lab.second = number;
            if (!takesWord("third") || !takesNumber()) {
                return false;
            }
            lab.third = number;
            if (!takesWord("growth") || !isWholeWithin(0, 100)) {
                return false;
            }
            lab.growth = value;
            lab.complete = true;
            advance();
            return true;
        }

        private boolean readsStack(Lab lab) {
            advance();
            if (!isName()) {
                return fails(FORM);
            }
            if (lab.stackNamed(word) != NONE) {
                return fails(TOLD_AGAIN);
            }
            long name = word;
            advance();
            if (kind != WORD) {
                return fails(FORM);
            }
            int row = rowOfWord();
            if (row == NO_ROW_TOLD) {
                return fails(NO_ROW);
            }
            lab.addStack(name, row, length);
            advance();
            return true;
        }

        private boolean readsUnsure(Lab lab) {
            advance();
            int stack = stackOfName(lab);
            if (stack == NONE) {
                return false;
            }
            advance();
            if (kind == WHOLE && lab.isUnsure(stack, value)) {
                return fails(TOLD_AGAIN);
            }
            if (!isWholeWithin(0, lab.stacks.steps(stack) - 1)) {
                return false;
            }
            lab.addUnsure(stack, value);
            advance();
            return true;
        }

        private boolean readsAgreed(Lab lab) {
            advance();
            int stack = stackOfName(lab);
            if (stack == NONE) {
                return false;
            }
            advance();
            if (kind == WHOLE && lab.isAgreed(stack, value)) {
                return fails(TOLD_AGAIN);
            }
            if (!isWholeWithin(1, MOST_LAYERS)) {
                return false;
            }
            int distance = value;
            advance();
            if (!isWholeWithin(0, MOST_LAYERS)) {
                return false;
            }
            lab.addAgreed(stack, distance, value);
            advance();
            return true;
        }

        /** The stack whose name the token is; else NONE, and that is a fault. */
        private int stackOfName(Lab lab) {
            if (!isName()) {
                fails(FORM);
                return NONE;
            }
            int stack = lab.stackNamed(word);
            if (stack == NONE) {
                fails(NOT_TOLD);
            }
            return stack;
        }

        private boolean isName() {
            boolean reserved = isWord("lab") || isWord("stack") || isWord("unsure") || isWord("agreed");
            return kind == WORD && length <= MOST_NAME_LETTERS && !reserved;
        }

        private boolean isWord(String text) {
            return kind == WORD && word == codeOf(text);
        }

        private boolean isWholeWithin(int low, int high) {
            if (kind != WHOLE) {
                return fails(FORM);
            }
            return value >= low && value <= high || fails(OUT_OF_BOUNDS);
        }

        private boolean takesWord(String text) {
            if (!isWord(text)) {
                return fails(FORM);
            }
            advance();
            return true;
        }

        private boolean takesNumber() {
            boolean below = kind == SIGN && value == '-';
            if (below) {
                advance();
            }
            if (!isWholeWithin(0, 99)) {
                return false;
            }
            number = below ? -value : value;
            advance();
            return true;
        }

        private int rowOfWord() {
            if (length < FEWEST_STEPS || length > MOST_STEPS) {
                return NO_ROW_TOLD;
            }
            int row = 0;
            for (int k = 0; k < length; k++) {
                int letter = tape.byteAt(place + k);
                if (letter != 'u' && letter != 'd') {
                    return NO_ROW_TOLD;
                }
                row = row * 2 + (letter == 'u' ? 1 : 0);
            }
            return row;
        }

        private void advance() {
            while (next < end && tape.byteAt(next) == ' ') {
                next++;
            }
            place = next;
            word = 0;
            value = 0;
            if (next >= end) {
                kind = END;
            } else if (isLetter(tape.byteAt(next))) {
                advanceWord();
            } else if (isDigit(tape.byteAt(next))) {
                advanceWhole();
            } else {
                value = tape.byteAt(next);
                kind = value == ';' || value == '-' ? SIGN : NO_TOKEN;
                next++;
            }
            length = next - place;
        }

        private void advanceWord() {
            int letter = tape.byteAt(next);
            while (next < end && isLetter(letter)) {
                word = word * 32 + (letter - 'a' + 1);
                next++;
                letter = tape.byteAt(next);
            }
            kind = next - place <= MOST_LETTERS ? WORD : NO_TOKEN;
        }

        private void advanceWhole() {
            int digit = tape.byteAt(next);
            while (next < end && isDigit(digit)) {
                value = value * 10 + (digit - '0');
                next++;
                digit = tape.byteAt(next);
            }
            kind = next - place <= MOST_DIGITS ? WHOLE : NO_TOKEN;
        }

        private static boolean isLetter(int sign) {
            return sign >= 'a' && sign <= 'z';
        }

        private static boolean isDigit(int sign) {
            return sign >= '0' && sign <= '9';
        }

        /** Five bits a letter: a word of twelve is a long that no other word is. */
        private static long codeOf(String text) {
            long code = 0;
            for (int i = 0; i < text.length(); i++) {
                code = code * 32 + (text.charAt(i) - 'a' + 1);
            }
            return code;
        }
    }

    /** How the stacks that were changed had been, the latest last. */
    private static final class Acts {
        private final int[] changed = new int[MOST_ACTS];
        private final int[] rows = new int[MOST_ACTS];
        private final int[] lengths = new int[MOST_ACTS];
        private int count;

        void keep(int s, int row, int n) {
            if (count >= MOST_ACTS) {
                forgetFirst();
            }
            set(changed, count, s);
            set(rows, count, row);
            set(lengths, count, n);
            count++;
        }

        private void forgetFirst() {
            for (int i = 1; i < MOST_ACTS; i++) {
                set(changed, i - 1, at(changed, i));
                set(rows, i - 1, at(rows, i));
                set(lengths, i - 1, at(lengths, i));
            }
            count = MOST_ACTS - 1;
        }

        void takeBack(Stacks stacks) {
            if (count > 0) {
                count--;
                stacks.put(at(changed, count), at(rows, count), at(lengths, count));
            }
        }
    }

    /** The stacks as they were, image behind image. A lab's stacks stay as many as long as its images do. */
    private static final class Images {
        private final int[] rows = new int[MOST_IMAGES * MOST_STACKS];
        private final int[] lengths = new int[MOST_IMAGES * MOST_STACKS];
        private int count;

        int keep(Stacks stacks) {
            for (int s = 0; s < MOST_STACKS; s++) {
                set(rows, count * MOST_STACKS + s, stacks.row(s));
                set(lengths, count * MOST_STACKS + s, stacks.steps(s));
            }
            count++;
            return count - 1;
        }

        void bring(int image, Stacks stacks) {
            for (int s = 0; s < MOST_STACKS; s++) {
                stacks.put(s, at(rows, image * MOST_STACKS + s), at(lengths, image * MOST_STACKS + s));
            }
        }
    }

    /** Whether a line goes out: a sum of points of a circle, counted by their parts of a turn. */
    private static final class Lines {
        private static final int[] PRIMES = {2, 3, 5, 7, 11};

        private int[] counts = new int[MOST_LAYERS];
        private int[] spare = new int[MOST_LAYERS];

        boolean goesOut(int row, int n, int line) {
            int repeats = Row.repeatsAfter(row, n);
            int parts = repeats % 3 == 0 ? repeats : 3 * repeats;
            if (repeats < 1 || parts < 1 || parts > MOST_LAYERS) {
                return false;
            }
            countPoints(row, n, repeats, parts / repeats * line, parts);
            // A sum of powers of a root of order M is 0 just if its polynomial, times x^(M/p) - 1
            // for each prime p of M, is 0 modulo x^M - 1: those leave only the M-th cyclotomic factor.
            for (int i = 0; i < PRIMES.length; i++) {
                int prime = PRIMES[i];
                if (prime > 0 && parts % prime == 0) {
                    subtractTurned(parts / prime, parts);
                }
            }
            return isZero(parts);
        }

        private void countPoints(int row, int n, int layers, int turnEach, int parts) {
            for (int e = 0; e < counts.length; e++) {
                counts[e] = 0;
            }
            int letter = 0;
            int turning = row;
            for (int j = 0; j < layers; j++) {
                int point = parts > 0 ? (turnEach * j + parts / 3 * letter) % parts : 0;
                set(counts, point, at(counts, point) + 1);
                letter = Row.letterBehind(letter, Row.startsUp(turning, n));
                turning = Row.turned(turning, n);
            }
        }

        private void subtractTurned(int by, int parts) {
            for (int e = 0; e < parts; e++) {
                int from = e >= by ? e - by : e - by + parts;
                set(spare, e, at(counts, from) - at(counts, e));
            }
            int[] former = counts;
            counts = spare;
            spare = former;
        }

        private boolean isZero(int parts) {
            for (int e = 0; e < parts; e++) {
                if (at(counts, e) != 0) {
                    return false;
                }
            }
            return true;
        }
    }

    /** The energies of all rows of n steps, and where slips lead among them. */
    private static final class Landscape {
        private static final int MOST_ROWS = 1 << MOST_STEPS;
        private static final int ABOVE_ALL = 1000000;

        private final int[] energies = new int[MOST_ROWS];
        private final int[] queue = new int[MOST_ROWS];
        private final boolean[] reached = new boolean[MOST_ROWS];
        private int steps;
        private int rows;
        private int queued;
        private int leastAbove;
        private int rowAtRest;
        private int slipsToRest;

        void survey(Lab lab, int n) {
            steps = n;
            rows = 1 << n;
            for (int row = 0; row < rows; row++) {
                set(energies, row, lab.energyOf(row, n));
            }
        }

        int lowest() {
            int least = at(energies, 0);
            for (int row = 1; row < rows; row++) {
                least = Math.min(least, at(energies, row));
            }
            return least;
        }

        int lowestRow() {
            int best = 0;
            for (int row = 1; row < rows; row++) {
                if (at(energies, row) < at(energies, best)) {
                    best = row;
                }
            }
            return best;
        }

        int lowestMany() {
            int least = lowest();
            int many = 0;
            for (int row = 0; row < rows; row++) {
                many += at(energies, row) == least ? 1 : 0;
            }
            return many;
        }

        /** How many rows are reached from one by slips over none above a limit. */
        int flood(int from, int limit) {
            for (int row = 0; row < reached.length; row++) {
                reached[row] = false;
            }
            queued = 0;
            leastAbove = ABOVE_ALL;
            reach(from);
            for (int head = 0; head < queued && head < MOST_ROWS; head++) {
                for (int k = 0; k < steps; k++) {
                    int row = at(queue, head) ^ (1 << k);
                    if (at(energies, row) <= limit) {
                        reach(row);
                    } else {
                        leastAbove = Math.min(leastAbove, at(energies, row));
                    }
                }
            }
            return queued;
        }

        private void reach(int row) {
            if (row >= 0 && row < reached.length && !reached[row]) {
                reached[row] = true;
                set(queue, queued, row);
                queued++;
            }
        }

        /** The limit rises to the least energy beside the flood until that comes to the other row. */
        int lowestPass(int from, int to) {
            int limit = Math.max(at(energies, from), at(energies, to));
            for (int rise = 0; rise < MOST_ROWS; rise++) {
                flood(from, limit);
                if (to >= 0 && to < reached.length && reached[to]) {
                    return limit;
                }
                limit = leastAbove;
            }
            return limit;
        }

        void settle(Lab lab, int row, int n) {
            rowAtRest = row;
            slipsToRest = 0;
            // Each slip lowers the energy, so that no row comes twice.
            for (int slip = 0; slip < MOST_ROWS; slip++) {
                int slipped = rowAtRest ^ Row.bit(n, lab.weakestStep(rowAtRest, n));
                if (lab.energyOf(slipped, n) >= lab.energyOf(rowAtRest, n)) {
                    return;
                }
                rowAtRest = slipped;
                slipsToRest++;
            }
        }
    }

    /** Sets of unsure steps, a bit for each, and sets of such sets, a bit for each of the sixteen. */
    private static final class Fits {
        private static final int MOST_SETS = 1 << MOST_UNSURE;

        static int of(Lab lab) {
            int sets = 0;
            for (int set = 0; set < 1 << lab.unsureCount; set++) {
                sets |= areAllSo(lab, set) ? 1 << set : 0;
            }
            return sets;
        }

        private static boolean areAllSo(Lab lab, int set) {
            for (int i = 0; i < lab.agreedCount; i++) {
                if (!isSo(lab, i, set)) {
                    return false;
                }
            }
            return true;
        }

        static boolean isSo(Lab lab, int i, int set) {
            int stack = at(lab.agreedStacks, i);
            int n = lab.stacks.steps(stack);
            int row = rowWith(lab, stack, set);
            return Row.layersAlike(row, n, at(lab.agreedDistances, i)) == at(lab.agreedLayers, i);
        }

        private static int rowWith(Lab lab, int stack, int set) {
            int row = lab.stacks.row(stack);
            int n = lab.stacks.steps(stack);
            for (int u = 0; u < lab.unsureCount; u++) {
                if (has(set, u) && at(lab.unsureStacks, u) == stack) {
                    row ^= Row.bit(n, at(lab.unsurePlaces, u));
                }
            }
            return row;
        }

        private static boolean has(int bits, int i) {
            return (bits >> i & 1) != 0;
        }

        static int setAt(int sets, int i) {
            int found = 0;
            for (int set = 0; set < MOST_SETS; set++) {
                if (has(sets, set)) {
                    if (found == i) {
                        return set;
                    }
                    found++;
                }
            }
            return NONE;
        }

        static int inSome(int sets) {
            int bits = 0;
            for (int set = 0; set < MOST_SETS; set++) {
                bits |= has(sets, set) ? set : 0;
            }
            return bits;
        }

        static int inAll(int sets) {
            int bits = sets == 0 ? 0 : MOST_SETS - 1;
            for (int set = 0; set < MOST_SETS; set++) {
                bits &= has(sets, set) ? set : bits;
            }
            return bits;
        }

        /** How many sets are left at most when one unsure step is told. */
        static int mostLeft(int sets, int unsure) {
            int with = 0;
            for (int set = 0; set < MOST_SETS; set++) {
                with += has(sets, set) && has(set, unsure) ? 1 : 0;
            }
            return Math.max(with, Integer.bitCount(sets) - with);
        }

        static int bestQuestion(int sets, int unsureCount) {
            if (sets == 0 || unsureCount == 0) {
                return NO_ANSWER;
            }
            int best = 0;
            for (int u = 1; u < unsureCount; u++) {
                if (mostLeft(sets, u) < mostLeft(sets, best)) {
                    best = u;
                }
            }
            return best;
        }
    }

    /** Growth by chance; upper wholes are over WHOLE to the power of n less 1. */
    private static final class Growth {
        private static final int WHOLE = 100;

        static long power(long base, int exponent) {
            long result = 1;
            for (int i = 0; i < exponent; i++) {
                result *= base;
            }
            return result;
        }

        static long withChanges(int growth, int n, int changes) {
            return power(growth, n - 1 - changes) * power(WHOLE - growth, changes);
        }

        static long upToChanges(int growth, int n, int most) {
            long upper = 0;
            long ways = 1;
            for (int changes = 0; changes <= most && changes < n; changes++) {
                upper += ways * withChanges(growth, n, changes);
                ways = ways * (n - 1 - changes) / (changes + 1);
            }
            return upper;
        }

        /** A step's mean is (2 growth - 100) hundredths of the mean of the one ahead. */
        static long meanTotal(int growth, int n) {
            long upper = 0;
            for (int k = 0; k < n; k++) {
                upper += power(2 * growth - WHOLE, k) * power(WHOLE, n - 1 - k);
            }
            return upper;
        }

        private static int drawBehind(int seed) {
            return (75 * seed + 74) % 65537;
        }

        static int rowBy(int growth, int seed, int n) {
            int row = 1;
            int draw = seed;
            for (int k = 1; k < n; k++) {
                draw = drawBehind(draw);
                int former = row & 1;
                row = row * 2 + (draw % WHOLE < growth ? former : 1 - former);
            }
            return row;
        }

        static int longestBy(int growth, int seed, int n) {
            int longest = 1;
            int length = 1;
            int draw = seed;
            for (int k = 1; k < n; k++) {
                draw = drawBehind(draw);
                length = draw % WHOLE < growth ? length + 1 : 1;
                longest = Math.max(longest, length);
            }
            return longest;
        }
    }
}
