import java.util.function.Supplier;

/** Boundary cases of promises 27 to 36: slips, passes, faults and differences of 2 steps and of 12. */
public final class EdgesOfSlipsTest {
    private static final String UP = "uuuuuuuuuuuu";
    private static final String DOWN = "dddddddddddd";
    private static final String BY_TURNS = "udududududud";
    private static final String LAST_DOWN = "uuuuuuuuuuud";
    private static final int[] WRONG_OF_FIVE = {-1, 5, Integer.MAX_VALUE, Integer.MIN_VALUE};

    public static void main(String[] args) {
        slips();
        slipsRefused();
        slipEnergies();
        slipEnergiesRefused();
        weakest();
        relax();
        passes();
        passesRefused();
        valleys();
        faultEnergies();
        bestFaults();
        differs();
        withoutStack();
        Check.end();
    }

    /** Of rows told, less near times the products alone: changes cost 2 each. */
    private static ClosePacking changes(String... rows) {
        return Edge.lab(1, 0, 0, 0, rows);
    }

    private static void dueSlips(String one, String other, int... due) {
        ClosePacking x = Edge.stacks(one, other);
        for (int how = 0; how <= 3; how++) {
            int asked = how;
            String what = "slips by " + how + ": " + one + ", " + other;
            Edge.taken(what, x, y -> y.slips(0, 1, asked), due[how]);
            Edge.taken(what + ", the other way about", x, y -> y.slips(1, 0, asked), due[how]);
            Edge.taken(what + ", one and itself", x, y -> y.slips(0, 0, asked), 0);
        }
    }

    /** None; all twelve; "-2 not as many STEPS", and that is no refusal. */
    private static void slips() {
        dueSlips("ud", "ud", 0, 0, 0, 0);
        dueSlips("ud", "du", 0, 0, 0, 0);
        dueSlips("uu", "dd", 2, 0, 0, 0);
        dueSlips("uu", "ud", 1, 1, 1, 1);
        dueSlips(UP, DOWN, 12, 0, 0, 0);
        dueSlips(UP, BY_TURNS, 6, 6, 6, 6);
        dueSlips(LAST_DOWN, "duuuuuuuuuuu", 0, 0, 0, 0);
        dueSlips(LAST_DOWN, "uddddddddddd", 10, 0, 0, 0);
        dueSlips("uuuuuuuududd", "dddddddduduu", 6, 0, 2, 0);
        dueSlips("uuuuuuuududd", "uududddddddd", 6, 2, 0, 0);
        // Told from its end, each step as it is: by 3 alone.
        dueSlips("uuuuuuuududd", "dduduuuuuuuu", 2, 2, 2, 0);
        dueSlips("uu", "uuu", -2, -2, -2, -2);
        dueSlips(UP, "uuuuuuuuuuu", -2, -2, -2, -2);
        dueSlips("ud", UP, -2, -2, -2, -2);
    }

    private static void slipsRefused() {
        int[] wrong = {-1, 4, Integer.MAX_VALUE, Integer.MIN_VALUE};
        for (int how : wrong) {
            Edge.refused("slips(0, 0, " + how + ")", Edge::fewest, x -> x.slips(0, 0, how), -1, 2);
            Edge.refused("slips(0, 4, " + how + ")", Edge::most, x -> x.slips(0, 4, how), -1, 2);
            Edge.refused("slips(5, 4, " + how + ")", Edge::most, x -> x.slips(5, 4, how), -1, 1);
            Edge.refused("not as many steps, and how " + how, () -> Edge.stacks("ud", "uud"),
                    x -> x.slips(0, 1, how), -1, 2);
        }
        for (int s : WRONG_OF_FIVE) {
            Edge.refused("slips(" + s + ", 0, 0)", Edge::most, x -> x.slips(s, 0, 0), -1, 1);
            Edge.refused("slips(0, " + s + ", 3)", Edge::most, x -> x.slips(0, s, 3), -1, 1);
        }
    }

    /** The first STEP and the last. */
    private static void slipEnergies() {
        ClosePacking x = changes("ud", "uu", LAST_DOWN, UP);
        Edge.taken("slipEnergy(0, 0)", x, y -> y.slipEnergy(0, 0), -2);
        Edge.taken("slipEnergy(0, 1)", x, y -> y.slipEnergy(0, 1), -2);
        Edge.taken("slipEnergy(1, 0)", x, y -> y.slipEnergy(1, 0), 2);
        Edge.taken("slipEnergy(1, 1)", x, y -> y.slipEnergy(1, 1), 2);
        Edge.taken("slipEnergy(2, 11)", x, y -> y.slipEnergy(2, 11), -12);
        Edge.taken("slipEnergy(2, 0)", x, y -> y.slipEnergy(2, 0), -8);
        Edge.taken("slipEnergy(2, 10)", x, y -> y.slipEnergy(2, 10), -8);
        Edge.taken("slipEnergy(2, 5)", x, y -> y.slipEnergy(2, 5), -4);
        Edge.taken("slipEnergy(3, 0)", x, y -> y.slipEnergy(3, 0), -8);
        Edge.taken("slipEnergy(3, 11)", x, y -> y.slipEnergy(3, 11), -8);
        x.grow(0, false);
        Edge.taken("slipEnergy(0, 2) now", x, y -> y.slipEnergy(0, 2), 1);
        ClosePacking most = Edge.lab(99, 99, 99, 0, "ud");
        Edge.taken("the least of two", most, y -> y.slipEnergy(0, 0), -594);
    }

    private static void slipEnergiesRefused() {
        int[] wrong = {-1, 2, 12, Integer.MAX_VALUE, Integer.MIN_VALUE};
        for (int k : wrong) {
            Edge.refused("slipEnergy(0, " + k + ")", Edge::fewest, x -> x.slipEnergy(0, k), -1000000, 2);
            Edge.refused("slipEnergy(5, " + k + ")", Edge::most, x -> x.slipEnergy(5, k), -1000000, 1);
            if (k != 2) {
                Edge.refused("slipEnergy(4, " + k + ")", Edge::most, x -> x.slipEnergy(4, k), -1000000, 2);
            }
        }
        Supplier<ClosePacking> cut = () -> {
            ClosePacking x = Edge.stacks("uuu");
            x.cut(0);
            return x;
        };
        Edge.refused("no such STEP now", cut, x -> x.slipEnergy(0, 2), -1000000, 2);
    }

    /** "the first such" */
    private static void weakest() {
        String[] rows = {"ud", "uu", UP, LAST_DOWN, "duuuuuuuuuuu", "uduuuuuuuuuu", BY_TURNS, "uuduuuuuduuu"};
        int[] due = {0, 0, 0, 11, 0, 1, 0, 2};
        for (int i = 0; i < rows.length; i++) {
            Edge.taken("weakest of " + rows[i], changes(rows[i]), x -> x.weakest(0), due[i]);
        }
        Edge.taken("weakest, all energies alike", Edge.lab(0, 0, 0, 0, "uud"), x -> x.weakest(0), 0);
    }

    /** "as long as a SLIP lowers the ENERGY": none does, or one after the other; of such that lower as much the first. */
    private static void relax() {
        String[] rows = {"uu", "dd", "ud", "du", "uudd", "udud", "dudu", UP, DOWN, LAST_DOWN, BY_TURNS, "uuuuuudddddd",
            "duddddduuuuu"};
        int[] slips = {0, 0, 1, 1, 0, 2, 2, 0, 0, 1, 6, 0, 1};
        int[] ends = {3, 0, 0, 3, 12, 0, 15, 4095, 0, 4095, 0, 0xfc0, 0xc1f};
        for (int i = 0; i < rows.length; i++) {
            ClosePacking x = changes(rows[i]);
            String before = Edge.seen(x);
            Edge.taken("relax of " + rows[i], x, y -> y.relax(0), slips[i]);
            Edge.taken("relaxed of " + rows[i], x, y -> y.relaxed(0), ends[i]);
            Edge.taken("relax of " + rows[i] + " again", x, y -> y.relax(0), slips[i]);
            x.calmest();
            Check.same("what relax() leaves", Edge.seen(x), before);
        }
        ClosePacking flat = Edge.lab(0, 0, 0, 0, "uud", UP);
        Edge.taken("a slip that doesn't lower it", flat, y -> y.relax(0), 0);
        Edge.taken("its row", flat, y -> y.relaxed(0), 6);
        Edge.taken("twelve that don't", flat, y -> y.relax(1), 0);
        // Of uuud with third neighbours: the slip of step 3 lowers it by 8, none of the others by as much.
        ClosePacking most = Edge.lab(5, -2, 1, 0, "uuud");
        Edge.taken("the one that lowers it most", most, y -> y.relaxed(0), 15);
    }

    /** "(both ends, too)": one and itself; the next one; all the way. */
    private static void passes() {
        ClosePacking x = changes("uu", "dd", "ud", "du");
        int[][] due = {{-2, 2, 2, 2}, {2, -2, 2, 2}, {2, 2, 2, 2}, {2, 2, 2, 2}};
        for (int s = 0; s < 4; s++) {
            for (int t = 0; t < 4; t++) {
                int one = s;
                int other = t;
                Edge.taken("pass(" + s + ", " + t + ")", x, y -> y.pass(one, other), due[s][t]);
            }
        }
        ClosePacking y = changes(UP, DOWN, LAST_DOWN, BY_TURNS, "uuuuuuuuuudu");
        Edge.taken("pass of all", y, z -> z.pass(0, 1), -8);
        Edge.taken("pass to the next", y, z -> z.pass(0, 2), -8);
        Edge.taken("pass to the next, the other way about", y, z -> z.pass(2, 0), -8);
        Edge.taken("pass from the highest", y, z -> z.pass(3, 0), 12);
        Edge.taken("pass to the highest", y, z -> z.pass(0, 3), 12);
        Edge.taken("pass of itself, the least", y, z -> z.pass(1, 1), -12);
        Edge.taken("pass of itself, the highest", y, z -> z.pass(3, 3), 12);
        Edge.taken("pass no higher than its ends", y, z -> z.pass(2, 4), -8);
        Edge.taken("all alike", Edge.lab(0, 0, 0, 0, UP, DOWN), z -> z.pass(0, 1), 0);
        Edge.taken("greatest numbers", Edge.lab(99, 99, 99, 0, UP, DOWN), z -> z.pass(0, 1), -1188);
        Edge.taken("greatest numbers, by turns", Edge.lab(-99, 99, -99, 0, BY_TURNS, "dudududududu"),
                z -> z.pass(0, 1), -1188);
        // Where like neighbours cost, all rows by turns lie low: the way goes over those with two like ones.
        Edge.taken("a pass between", Edge.lab(-1, 0, 0, 0, BY_TURNS, "dudududududu"), z -> z.pass(0, 1), -8);
    }

    private static void passesRefused() {
        Supplier<ClosePacking> scene = () -> changes("ud", "uud", UP, "uuuuuuuuuuu");
        for (int s = 0; s < 4; s++) {
            for (int t = 0; t < 4; t++) {
                int one = s;
                int other = t;
                if (s != t) {
                    Edge.refused("pass(" + s + ", " + t + "), not as many", scene, x -> x.pass(one, other), -1000000, 5);
                }
            }
        }
        for (int s : WRONG_OF_FIVE) {
            Edge.refused("pass(" + s + ", 0)", Edge::most, x -> x.pass(s, 0), -1000000, 1);
            Edge.refused("pass(0, " + s + ")", Edge::most, x -> x.pass(0, s), -1000000, 1);
            Edge.refused("pass of none", Edge::most, x -> x.pass(s, s), -1000000, 1);
        }
    }

    /** "(itself, too)": one alone, up to all rows there are. */
    private static void valleys() {
        ClosePacking x = changes("uu", "dd", "ud", "du", "udu");
        int[] two = {1, 1, 4, 4, 8};
        for (int s = 0; s < 5; s++) {
            int stack = s;
            Edge.taken("valley(" + s + ")", x, y -> y.valley(stack), two[s]);
        }
        ClosePacking y = changes(UP, DOWN, BY_TURNS, "uuuuuuuuuuud", "uuuu");
        // Of no more than two changes there are 2 and 12 times 11 rows.
        int[] twelve = {1, 1, 4096, 134, 1};
        for (int s = 0; s < 5; s++) {
            int stack = s;
            Edge.taken("valley(" + s + ") of most", y, z -> z.valley(stack), twelve[s]);
        }
        y.slip(4, 3);
        Edge.taken("valley now", y, z -> z.valley(4), 14);
        Edge.taken("all alike, of two", Edge.lab(0, 0, 0, 0, "ud"), z -> z.valley(0), 4);
        Edge.taken("all alike, of twelve", Edge.lab(0, 0, 0, 0, UP), z -> z.valley(0), 4096);
        // Rows as low as it that can't be come to don't count: each of the two by turns lies alone.
        Edge.taken("one of two valleys", Edge.lab(-1, 0, 0, 0, BY_TURNS), z -> z.valley(0), 1);
    }

    /** k 1 .. N less 1; of two steps 1 alone. */
    private static void faultEnergies() {
        ClosePacking x = changes("ud", "uu", UP, LAST_DOWN, "uddddddddddd");
        Edge.taken("faultEnergy(0, 1)", x, y -> y.faultEnergy(0, 1), -2);
        Edge.taken("faultEnergy(1, 1)", x, y -> y.faultEnergy(1, 1), 2);
        int[] places = {1, 6, 11};
        int[][] due = {{-8, -8, -8}, {-8, -8, -12}, {-12, -8, -8}};
        for (int s = 2; s < 5; s++) {
            int stack = s;
            for (int i = 0; i < 3; i++) {
                int k = places[i];
                Edge.taken("faultEnergy(" + s + ", " + k + ")", x, y -> y.faultEnergy(stack, k), due[s - 2][i]);
            }
        }
        int[] wrong = {0, 12, -1, Integer.MAX_VALUE, Integer.MIN_VALUE};
        for (int k : wrong) {
            Edge.refused("faultEnergy(4, " + k + ")", Edge::most, y -> y.faultEnergy(4, k), -1000000, 2);
            Edge.refused("faultEnergy(0, " + k + ")", Edge::fewest, y -> y.faultEnergy(0, k), -1000000, 2);
            Edge.refused("faultEnergy(5, " + k + ")", Edge::most, y -> y.faultEnergy(5, k), -1000000, 1);
        }
        Edge.refused("faultEnergy(0, 2) of two", Edge::fewest, y -> y.faultEnergy(0, 2), -1000000, 2);
    }

    /** "the first such": 1 at least, N less 1 at most. */
    private static void bestFaults() {
        String[] rows = {"ud", "uu", UP, LAST_DOWN, "uddddddddddd", "uuuuuudddddd", "uuddduuudd"};
        int[] due = {1, 1, 1, 11, 1, 6, 2};
        for (int i = 0; i < rows.length; i++) {
            Edge.taken("bestFault of " + rows[i], changes(rows[i]), x -> x.bestFault(0), due[i]);
        }
        Edge.taken("all alike", Edge.lab(0, 0, 0, 0, "uud"), x -> x.bestFault(0), 1);
        // The row itself is lower than each: of one step the other way -64, of two and more -68.
        Edge.taken("least of faults, not of the row", Edge.lab(9, -1, 0, 0, UP), x -> x.bestFault(0), 2);
        ClosePacking x = changes("uuu");
        x.cut(0);
        Edge.taken("of two steps now", x, y -> y.bestFault(0), 1);
    }

    private static void dueDiffers(String one, String other, int due) {
        ClosePacking x = Edge.stacks(one, other);
        Edge.taken("differs: " + one + ", " + other, x, y -> y.differs(0, 1), due);
        Edge.taken("differs: " + other + ", " + one, x, y -> y.differs(1, 0), due);
        Edge.taken("differs: " + one + " and itself", x, y -> y.differs(0, 0), -2);
        Edge.taken("differs: " + other + " and itself", x, y -> y.differs(1, 1), -2);
    }

    /** By 1 no layers are ever alike, so that 2 is the least there is; 8 is the greatest; "-2". */
    private static void differs() {
        dueDiffers("ud", "du", -2);
        dueDiffers("uu", "dd", -2);
        dueDiffers("ud", "uu", 2);
        dueDiffers("uu", UP, -2);
        dueDiffers("ud", BY_TURNS, -2);
        dueDiffers("ud", LAST_DOWN, 2);
        dueDiffers("uuuuduuududd", "uuuuduudddud", 8);
        dueDiffers("uuuuuudddddd", "uuuuuuuddddd", 7);
        // As parts: of 9 layers, and of 36.
        dueDiffers("uud", "uuduuduuduud", -2);
        dueDiffers("uud", "uudd", 2);
    }

    /** "NONE: 1", or what the promise names, of each call. */
    private static void withoutStack() {
        for (int s : WRONG_OF_FIVE) {
            refusedOf(Edge::most, "five, of " + s, s);
        }
        int[] wrongOfOne = {-1, 1};
        for (int s : wrongOfOne) {
            refusedOf(Edge::fewest, "one, of " + s, s);
            Edge.refused("slips(0, s, 0) of one", Edge::fewest, x -> x.slips(0, s, 0), -1, 1);
            Edge.refused("pass(0, s) of one", Edge::fewest, x -> x.pass(0, s), -1000000, 1);
            Edge.refused("differs(0, s) of one", Edge::fewest, x -> x.differs(0, s), -1, 1);
        }
        refusedOf(Edge::none, "none", 0);
    }

    private static void refusedOf(Supplier<ClosePacking> scene, String of, int s) {
        Edge.refused("slips, " + of, scene, x -> x.slips(s, 0, 0), -1, 1);
        Edge.refused("slipEnergy, " + of, scene, x -> x.slipEnergy(s, 0), -1000000, 1);
        Edge.refused("weakest, " + of, scene, x -> x.weakest(s), -1, 1);
        Edge.refused("relax, " + of, scene, x -> x.relax(s), -1, 1);
        Edge.refused("relaxed, " + of, scene, x -> x.relaxed(s), -1, 1);
        Edge.refused("pass, " + of, scene, x -> x.pass(s, 0), -1000000, 1);
        Edge.refused("valley, " + of, scene, x -> x.valley(s), -1, 1);
        Edge.refused("faultEnergy, " + of, scene, x -> x.faultEnergy(s, 1), -1000000, 1);
        Edge.refused("bestFault, " + of, scene, x -> x.bestFault(s), -1, 1);
        Edge.refused("differs, " + of, scene, x -> x.differs(s, 0), -1, 1);
        Edge.refused("differs, the other one, " + of, scene, x -> x.differs(0, s), -1, 1);
    }
}
