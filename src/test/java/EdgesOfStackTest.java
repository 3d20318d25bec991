/** Boundary cases of promises 6 to 14: stacks of fewest and most steps, rows that go round their end. */
public final class EdgesOfStackTest {
    private static final int[] WRONG_STACKS_OF_ONE = {-1, 1, Integer.MAX_VALUE, Integer.MIN_VALUE};
    private static final int[] WRONG_STACKS_OF_FIVE = {-1, 5, Integer.MAX_VALUE, Integer.MIN_VALUE};

    public static void main(String[] args) {
        stackOfFewest();
        stackOfMost();
        repeats();
        leastTurn();
        stackRefused();
        stackNow();
        sums();
        layers();
        hexes();
        runs();
        runsGoingRound();
        agreeing();
        shares();
        energies();
        energiesGoingRound();
        calmest();
        refusedWithoutStack();
        Check.end();
    }

    private static void dueStack(ClosePacking x, int s, int... due) {
        for (int what = 0; what < due.length; what++) {
            int asked = what;
            Edge.taken("stack(" + s + ", " + what + ")", x, y -> y.stack(s, asked), due[what]);
        }
    }

    /** All rows of two steps. */
    private static void stackOfFewest() {
        ClosePacking x = Edge.stacks("ud", "du", "uu", "dd");
        dueStack(x, 0, 2, 2, 2, 2, 2, 2);
        dueStack(x, 1, 2, 1, 2, 2, 2, 2);
        dueStack(x, 2, 2, 3, 6, 1, 0, 1);
        dueStack(x, 3, 2, 0, 6, 1, 0, 1);
    }

    private static void stackOfMost() {
        ClosePacking x = Edge.most();
        dueStack(x, 0, 12, 4094, 36, 12, 2, 2);
        dueStack(x, 1, 12, 4095, 12, 1, 0, 1);
        dueStack(x, 2, 12, 0, 12, 1, 0, 1);
        dueStack(x, 3, 12, 0xaaa, 12, 2, 12, 12);
        dueStack(x, 4, 12, 0xccc, 12, 4, 6, 6);
    }

    /** "after N LAYERS if its STEPS together are a multiple of 3 (0, and below 0, too), else after 3 times N" */
    private static void repeats() {
        String[] rows = {"uuuu", "uuud", "uudd", "uddd", "dddd", "uuu", "ddd", "udd", "uud", "uuuuu", "uuuud",
            "uuudd", "uuddd", "udddd", "ddddd"};
        int[] due = {12, 12, 4, 12, 12, 3, 3, 9, 9, 15, 5, 15, 15, 5, 15};
        for (int i = 0; i < rows.length; i++) {
            ClosePacking x = Edge.stacks(rows[i]);
            Check.due("LAYERS of " + rows[i], x.stack(0, 2), due[i]);
        }
    }

    /** "the least number of STEPS (1 ..) by which, turned, it is itself": a part of N, or N. */
    private static void leastTurn() {
        String[] rows = {"uu", "ud", "uuu", "uud", "udud", "uuud", "uuuuu", "uudud", "uuduud", "uududu", "ududud",
            "uuuuuu", "uuduuduud", "uuuduuud", "uudduudduudd", "uuudduuuuddd", "uuuduuuduuud", "uuuuuduuuuud",
            "uuuuuddddddd", "dddddddddddd"};
        int[] due = {1, 2, 1, 3, 2, 4, 1, 5, 3, 6, 2, 1, 3, 4, 4, 12, 4, 6, 12, 1};
        for (int i = 0; i < rows.length; i++) {
            Check.due("turned, itself: " + rows[i], Edge.stacks(rows[i]).stack(0, 3), due[i]);
        }
    }

    private static void stackRefused() {
        int[] whats = {-1, 6, Integer.MAX_VALUE, Integer.MIN_VALUE};
        for (int what : whats) {
            Edge.refused("stack(0, " + what + ")", Edge::fewest, x -> x.stack(0, what), -1, 1);
            Edge.refused("stack(4, " + what + ")", Edge::most, x -> x.stack(4, what), -1, 1);
            Edge.refused("stack(5, " + what + ")", Edge::most, x -> x.stack(5, what), -1, 1);
        }
    }

    /** "NOW": as acts have left it, down to two steps and up to twelve. */
    private static void stackNow() {
        ClosePacking x = Edge.stacks("uud");
        x.cut(0);
        dueStack(x, 0, 2, 3, 6, 1, 0, 1);
        for (int n = 3; n <= 12; n++) {
            x.grow(0, n % 2 == 0);
        }
        dueStack(x, 0, 12, 0b110101010101, 36, 12, 10, 10);
        x.undo();
        dueStack(x, 0, 11, 0b11010101010, 33, 11, 10, 10);
    }

    private static void sums() {
        ClosePacking x = Edge.stacks("dd", "uu", "ud", "dddddddddddd", "uuuuuuuuuuuu");
        int[] due = {-2, 2, 0, -12, 12};
        for (int s = 0; s < due.length; s++) {
            int asked = s;
            Edge.taken("sum(" + s + ")", x, y -> y.sum(asked), due[s]);
        }
    }

    /** LAYER k of 0 .. 35: behind the last of those after which it REPEATS comes the first again. */
    private static void layers() {
        ClosePacking x = Edge.stacks("ud", "uu", "uuuuuuuuuuud", "dddddddddddd", "uudd");
        int[] asked = {0, 1, 2, 11, 12, 13, 23, 24, 34, 35};
        int[][] due = {{0, 1, 0, 1, 0, 1, 1, 0, 0, 1}, {0, 1, 2, 2, 0, 1, 2, 0, 1, 2},
            {0, 1, 2, 2, 1, 2, 0, 2, 0, 1}, {0, 2, 1, 1, 0, 2, 1, 0, 2, 1}, {0, 1, 2, 1, 0, 1, 1, 0, 2, 1}};
        for (int s = 0; s < due.length; s++) {
            int stack = s;
            for (int i = 0; i < asked.length; i++) {
                int k = asked[i];
                Edge.taken("layer(" + s + ", " + k + ")", x, y -> y.layer(stack, k), due[s][i]);
            }
        }
        int[] wrong = {-1, 36, Integer.MAX_VALUE, Integer.MIN_VALUE};
        for (int k : wrong) {
            Edge.refused("layer(0, " + k + ")", Edge::fewest, y -> y.layer(0, k), -1, 2);
            Edge.refused("layer(4, " + k + ")", Edge::most, y -> y.layer(4, k), -1, 2);
            Edge.refused("layer(5, " + k + ")", Edge::most, y -> y.layer(5, k), -1, 1);
        }
    }

    /** "the STEP to the first one is the last": LAYER 0, and each one N on. */
    private static void hexes() {
        ClosePacking x = Edge.stacks("ud", "uu", "uud", "udd", "uuuuuuuuuuud");
        String[] due = {"111111111111111111111111111111111111", "000000000000000000000000000000000000",
            "101101101101101101101101101101101101", "110110110110110110110110110110110110",
            "100000000001100000000001100000000001"};
        int[] asked = {0, 1, 2, 3, 10, 11, 12, 13, 23, 24, 34, 35};
        for (int s = 0; s < due.length; s++) {
            int stack = s;
            for (int k : asked) {
                Edge.taken("hex(" + s + ", " + k + ")", x, y -> y.hex(stack, k), due[s].charAt(k) - '0');
            }
        }
        int[] wrong = {-1, 36, Integer.MAX_VALUE, Integer.MIN_VALUE};
        for (int k : wrong) {
            Edge.refused("hex(0, " + k + ")", Edge::fewest, y -> y.hex(0, k), -1, 2);
            Edge.refused("hex(4, " + k + ")", Edge::most, y -> y.hex(4, k), -1, 2);
            Edge.refused("hex(5, " + k + ")", Edge::most, y -> y.hex(5, k), -1, 1);
        }
    }

    private static void dueRuns(String row, int... due) {
        ClosePacking x = Edge.stacks(row);
        for (int i = 0; i < due.length; i++) {
            int asked = i;
            Edge.taken("run(0, " + i + ") of " + row, x, y -> y.run(0, asked), due[i]);
        }
        Check.due("how many RUNS of " + row, x.stack(0, 5), due.length);
        Edge.refused("run behind the last of " + row, () -> Edge.stacks(row), y -> y.run(0, due.length), -1, 1);
        Edge.refused("run ahead of the first of " + row, () -> Edge.stacks(row), y -> y.run(0, -1), -1, 1);
    }

    /** One RUN alone, if all are alike, and as many as can be. */
    private static void runs() {
        dueRuns("uu", 2);
        dueRuns("dd", 2);
        dueRuns("ud", 1, 1);
        dueRuns("du", 1, 1);
        dueRuns("uuuuuuuuuuuu", 12);
        dueRuns("dddddddddddd", 12);
        dueRuns("udududududud", 1, 1, 1, 1, 1, 1, 1, 1, 1, 1, 1, 1);
        int[] wrong = {Integer.MAX_VALUE, Integer.MIN_VALUE, 12};
        for (int i : wrong) {
            Edge.refused("run(3, " + i + ")", Edge::most, x -> x.run(3, i), -1, 1);
            Edge.refused("run(1, " + i + ")", Edge::most, x -> x.run(1, i), -1, 1);
            Edge.refused("run(5, " + i + ")", Edge::most, x -> x.run(5, i), -1, 1);
        }
    }

    /** "the first that begins at STEP 0 or behind it": a RUN that goes round the end comes last. */
    private static void runsGoingRound() {
        dueRuns("uud", 2, 1);
        dueRuns("udu", 1, 2);
        dueRuns("duu", 1, 2);
        dueRuns("uduuuu", 1, 5);
        dueRuns("uuuudu", 1, 5);
        dueRuns("ddduddd", 1, 6);
        dueRuns("uuuuuuuuuuud", 11, 1);
        dueRuns("uuuuuuuuuudu", 1, 11);
        dueRuns("duuuuuuuuuuu", 1, 11);
        dueRuns("uduuuuuuuuuu", 1, 11);
        dueRuns("uuudddduuuuu", 4, 8);
        dueRuns("ddudduuduudd", 1, 2, 2, 1, 2, 4);
    }

    private static void agreeing() {
        ClosePacking x = Edge.stacks("ud", "uuuuuuuuuuuu", "uuuuuuuuuuud", "uud", "uu");
        int[] distances = {1, 2, 3, 35, 36};
        int[][] due = {{0, 2, 0, 0, 2}, {0, 0, 12, 0, 12}, {0, 6, 27, 0, 36}, {0, 6, 0, 0, 9}, {0, 0, 6, 0, 6}};
        for (int s = 0; s < due.length; s++) {
            int stack = s;
            for (int i = 0; i < distances.length; i++) {
                int m = distances[i];
                Edge.taken("agree(" + s + ", " + m + ")", x, y -> y.agree(stack, m), due[s][i]);
            }
        }
        int[] wrong = {0, 37, -1, Integer.MAX_VALUE, Integer.MIN_VALUE};
        for (int m : wrong) {
            Edge.refused("agree(0, " + m + ")", Edge::fewest, y -> y.agree(0, m), -1, 2);
            Edge.refused("agree(4, " + m + ")", Edge::most, y -> y.agree(4, m), -1, 2);
            Edge.refused("agree(5, " + m + ")", Edge::most, y -> y.agree(5, m), -1, 1);
        }
    }

    /** "in lowest terms (0 by 1)": none, all, and some that have a common part. */
    private static void shares() {
        String[] rows = {"uu", "ud", "uuuuuuuuuuuu", "udududududud", "uuuuuuuuuuud", "uudduudduudd", "uuud", "uud"};
        int[][] due = {{0, 1}, {1, 1}, {0, 1}, {1, 1}, {1, 6}, {1, 2}, {1, 2}, {2, 3}};
        for (int i = 0; i < rows.length; i++) {
            ClosePacking x = Edge.stacks(rows[i]);
            Edge.taken("upper WHOLE of " + rows[i], x, y -> y.share(0, false), due[i][0]);
            Edge.taken("lower WHOLE of " + rows[i], x, y -> y.share(0, true), due[i][1]);
        }
    }

    /** The least and the greatest there are. */
    private static void energies() {
        int[][] told = {{99, 99, 99, -3564}, {-99, -99, -99, 3564}, {99, 0, 0, -1188}, {0, 99, 0, -1188},
            {0, 0, 99, -1188}, {0, 0, 0, 0}, {-99, 99, -99, 1188}};
        for (int[] t : told) {
            ClosePacking x = Edge.lab(t[0], t[1], t[2], 0, "uuuuuuuuuuuu", "dddddddddddd", "uu");
            for (int s = 0; s < 3; s++) {
                int stack = s;
                Edge.taken("energy(" + s + ")", x, y -> y.energy(stack), s == 2 ? t[3] / 6 : t[3]);
            }
        }
        ClosePacking x = Edge.lab(-99, 99, -99, 0, "udududududud");
        Edge.taken("all others unlike", x, y -> y.energy(0), -3564);
    }

    /** "(going round)": in two and three steps the third next is the next one, or the step itself. */
    private static void energiesGoingRound() {
        String[] rows = {"uu", "dd", "ud", "du", "uuu", "uud", "udu", "uddd", "uudd", "uuddd"};
        int[][] products = {{2, 2, 2}, {2, 2, 2}, {-2, 2, -2}, {-2, 2, -2}, {3, 3, 3}, {-1, -1, 3}, {-1, -1, 3},
            {0, 0, 0}, {0, -4, 0}, {1, -3, -3}};
        for (int i = 0; i < rows.length; i++) {
            int[] p = products[i];
            Check.due("near of " + rows[i], Edge.lab(7, 0, 0, 0, rows[i]).energy(0), -7 * p[0]);
            Check.due("second of " + rows[i], Edge.lab(0, 7, 0, 0, rows[i]).energy(0), -7 * p[1]);
            Check.due("third of " + rows[i], Edge.lab(0, 0, 7, 0, rows[i]).energy(0), -7 * p[2]);
            Check.due("all of " + rows[i], Edge.lab(-1, 10, -99, 0, rows[i]).energy(0), p[0] - 10 * p[1] + 99 * p[2]);
        }
    }

    /** "by STEPS (as a part of how many), the first such" */
    private static void calmest() {
        Edge.taken("calmest() of one", Edge.fewest(), ClosePacking::calmest, 0);
        Edge.taken("the last of five", Edge.lab(1, 0, 0, 0, "ud", "udud", "uuud", "udd", "uu"),
                ClosePacking::calmest, 4);
        Edge.taken("the first of equal parts", Edge.lab(99, 99, 99, 0, "ud", "uu", "uuuuuuuuuuuu", "ddd"),
                ClosePacking::calmest, 1);
        Edge.taken("the first of equal parts, the longer one", Edge.lab(99, 99, 99, 0, "dddddddddddd", "uu"),
                ClosePacking::calmest, 0);
        Edge.taken("all are alike", Edge.lab(0, 0, 0, 0, "ud", "uu", "uudd"), ClosePacking::calmest, 0);
        // Less energy, but a greater part; and the other way about.
        Edge.taken("-8 by 12, -2 by 2", Edge.lab(1, 0, 0, 0, "uuuuuuuuuudd", "uu"), ClosePacking::calmest, 1);
        Edge.taken("-8 by 12, -7 by 11", Edge.lab(1, 0, 0, 0, "uuuuuuuuuudd", "uuuuuuuuudd"), ClosePacking::calmest, 0);
        Edge.taken("-1 by 5, -4 by 12", Edge.lab(1, 0, 0, 0, "uuddd", "uuuuuuuuudud"), ClosePacking::calmest, 1);
        Edge.taken("-1 by 5, -2 by 10", Edge.lab(1, 0, 0, 0, "uuudd", "uudduudddd"), ClosePacking::calmest, 0);
        Edge.taken("above 0: 12 by 12, 11 by 11, 2 by 6", Edge.lab(-1, 0, 0, 0, "uuuuuuuuuuuu", "uuuuuuuuuuu", "uuuudd"),
                ClosePacking::calmest, 2);
        Edge.refused("calmest() without a lab", Edge::none, ClosePacking::calmest, -1, 1);
        ClosePacking x = Edge.lab(1, 0, 0, 0, "uuuu", "uuu");
        x.slip(0, 3);
        Edge.taken("calmest() now", x, ClosePacking::calmest, 1);
    }

    /** "NONE: 1", or what the promise names, of each call of a stack. */
    private static void refusedWithoutStack() {
        for (int i = 0; i < 4; i++) {
            int one = WRONG_STACKS_OF_ONE[i];
            int five = WRONG_STACKS_OF_FIVE[i];
            int none = i == 1 ? 0 : one;
            refusedOf(Edge::fewest, "one, of " + one, one);
            refusedOf(Edge::most, "five, of " + five, five);
            refusedOf(Edge::none, "none, of " + none, none);
        }
    }

    private static void refusedOf(java.util.function.Supplier<ClosePacking> scene, String of, int s) {
        Edge.refused("stack, of " + of, scene, x -> x.stack(s, 0), -1, 1);
        Edge.refused("sum, of " + of, scene, x -> x.sum(s), -100, 1);
        Edge.refused("layer, of " + of, scene, x -> x.layer(s, 0), -1, 1);
        Edge.refused("hex, of " + of, scene, x -> x.hex(s, 0), -1, 1);
        Edge.refused("run, of " + of, scene, x -> x.run(s, 0), -1, 1);
        Edge.refused("agree, of " + of, scene, x -> x.agree(s, 1), -1, 1);
        Edge.refused("share, of " + of, scene, x -> x.share(s, false), -1, 1);
        Edge.refused("share, lower, of " + of, scene, x -> x.share(s, true), -1, 1);
        Edge.refused("energy, of " + of, scene, x -> x.energy(s), -1000000, 1);
    }
}
