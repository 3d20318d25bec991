/** Promises 27 to 36: slips, passes, faults and differences. */
public final class SlipsTest {
    /** Here the energy is 2 for each change of steps, going round, less the steps. */
    private static final String CHANGES = "lab near 1 second 0 third 0 growth 0;";

    public static void main(String[] args) {
        slips();
        slipEnergies();
        relaxing();
        passes();
        higherPasses();
        valleys();
        faults();
        differences();
        refusals();
        Check.end();
    }

    private static void slips() {
        ClosePacking x = Check.told(CHANGES + "stack a uuuud;stack b ddddu;stack c uuddu;stack e uuuu;stack f udddd");
        int[][] due = {{3, 0, 0, 0}, {1, 1, 1, 1}, {3, 0, 0, 0}};
        int[] others = {1, 2, 4};
        for (int i = 0; i < others.length; i++) {
            for (int how = 0; how <= 3; how++) {
                Check.due(x, "slips(0, " + others[i] + ", " + how + ")", x.slips(0, others[i], how), due[i][how], 0);
            }
        }
        Check.due(x, "one and itself", x.slips(2, 2, 0), 0, 0);
        Check.due(x, "not as many steps", x.slips(0, 3, 3), -2, 0);
        Check.due(x, "not as many steps the other way", x.slips(3, 0, 0), -2, 0);
        ClosePacking y = Check.told(CHANGES + "stack a uuuuuuuuuuuu;stack b dddddddddddd;stack c udududududud");
        Check.due(y, "all twelve", y.slips(0, 1, 0), 12, 0);
        Check.due(y, "none when twinned", y.slips(0, 1, 1), 0, 0);
        Check.due(y, "six", y.slips(0, 2, 3), 6, 0);
        y.twin(0);
        Check.due(y, "none now", y.slips(0, 1, 0), 0, 0);
    }

    private static void slipEnergies() {
        ClosePacking x = Check.told(CHANGES + "stack a uuddu;stack b ududd");
        int[] due = {3, -1, -1, -1, -1};
        for (int k = 0; k < 5; k++) {
            Check.due(x, "slipEnergy(0, " + k + ")", x.slipEnergy(0, k), due[k], 0);
        }
        Check.due(x, "slipEnergy(0, 5)", x.slipEnergy(0, 5), -1000000, 2);
        Check.due(x, "slipEnergy(0, -1)", x.slipEnergy(0, -1), -1000000, 2);
        Check.due(x, "weakest(0)", x.weakest(0), 1, 0);
        Check.due(x, "weakest(1)", x.weakest(1), 0, 0);
        Check.due("the row stays", x.stack(0, 1), 25);
        Check.due("nothing to undo", x.size(7), 0);
        x.turn(0);
        Check.due(x, "slipEnergy now", x.slipEnergy(0, 4), 3, 0);
        Check.due(x, "weakest now", x.weakest(0), 0, 0);
        ClosePacking y = Check.told("lab near 0 second 0 third 5 growth 0;stack a uuuuuuuuuuud");
        Check.due(y, "the last is weakest", y.weakest(0), 11, 0);
    }

    private static void relaxing() {
        ClosePacking x = Check.told(CHANGES + "stack a uuddu;stack b ududd;stack c ududududud;stack e uuu;stack f udud");
        int[] slips = {0, 2, 5, 0, 2};
        int[] rows = {25, 0, 0, 7, 0};
        for (int s = 0; s < 5; s++) {
            Check.due(x, "relax(" + s + ")", x.relax(s), slips[s], 0);
            Check.due(x, "relaxed(" + s + ")", x.relaxed(s), rows[s], 0);
        }
        Check.due("the row stays", x.stack(1, 1), 20);
        Check.due("nothing to undo", x.size(7), 0);
        ClosePacking y = Check.told("lab near 5 second -2 third 1 growth 60;stack r uuud;stack d uudd");
        Check.due(y, "relax(r)", y.relax(0), 1, 0);
        Check.due(y, "relaxed(r)", y.relaxed(0), 15, 0);
        Check.due(y, "relax(d)", y.relax(1), 0, 0);
        Check.due(y, "relaxed(d)", y.relaxed(1), 12, 0);
        y.twin(0);
        Check.due(y, "relaxed now", y.relaxed(0), 0, 0);
    }

    private static void passes() {
        ClosePacking x = Check.told(CHANGES + "stack a uuddu;stack b ududd;stack c uuuuu;stack e ddddd;stack f udud");
        Check.due(x, "pass(0, 1)", x.pass(0, 1), 3, 0);
        Check.due(x, "pass(1, 0)", x.pass(1, 0), 3, 0);
        Check.due(x, "pass(2, 3)", x.pass(2, 3), -1, 0);
        Check.due(x, "pass(3, 2)", x.pass(3, 2), -1, 0);
        Check.due(x, "pass(2, 2)", x.pass(2, 2), -5, 0);
        Check.due(x, "pass(0, 2)", x.pass(0, 2), -1, 0);
        Check.due(x, "not as many", x.pass(0, 4), -1000000, 5);
        Check.due(x, "pass(1, 1)", x.pass(1, 1), 3, 0);
        x.twin(2);
        Check.due(x, "pass now", x.pass(2, 3), -5, 0);
        ClosePacking y = Check.told("lab near 99 second 99 third 99 growth 0;stack a uuuuuuuuuuuu;stack b dddddddddddd");
        // A block of the other way of four to eight steps costs 2 by 1, 4 by 2, 6 by 3: -3564 + 2 by 12 by 99.
        Check.due(y, "pass of twelve", y.pass(0, 1), -3564 + 2 * 12 * 99, 0);
    }

    /** Between two rows of least energy the way goes up more than one step. */
    private static void higherPasses() {
        ClosePacking x = Check.told("lab near -9 second 0 third 0 growth 0;stack a udududududud;stack b dudududududu");
        Check.due(x, "pass of antiphase rows", x.pass(0, 1), -72, 0);
        ClosePacking y = Check.told("lab near 3 second -7 third 5 growth 0;stack a uudduudduudd;stack b dduudduudduu;stack c uudduudd"
                + ";stack e dduudduu");
        Check.due(y, "pass of 12", y.pass(0, 1), passByLimits(3, -7, 5, 12, 0xccc, 0x333), 0);
        Check.due(y, "pass of 8", y.pass(2, 3), passByLimits(3, -7, 5, 8, 0xcc, 0x33), 0);
    }

    /** Rows join one behind the other, from least energy up, until the two are of one group. */
    private static int passByLimits(int near, int second, int third, int n, int from, int to) {
        int[] group = new int[1 << n];
        java.util.Arrays.fill(group, -1);
        Integer[] rows = new Integer[1 << n];
        int[] energy = new int[1 << n];
        for (int row = 0; row < rows.length; row++) {
            rows[row] = row;
            for (int k = 0; k < n; k++) {
                int step = (row >> k & 1) * 2 - 1;
                energy[row] -= step * (near * ((row >> (k + 1) % n & 1) * 2 - 1)
                        + second * ((row >> (k + 2) % n & 1) * 2 - 1) + third * ((row >> (k + 3) % n & 1) * 2 - 1));
            }
        }
        java.util.Arrays.sort(rows, (a, b) -> energy[a] - energy[b]);
        for (int row : rows) {
            group[row] = row;
            for (int k = 0; k < n; k++) {
                int old = group[row ^ 1 << k];
                for (int other = 0; other < group.length && old >= 0; other++) {
                    group[other] = group[other] == old ? row : group[other];
                }
            }
            if (group[from] >= 0 && group[from] == group[to]) {
                return energy[row];
            }
        }
        return 0;
    }

    private static void valleys() {
        ClosePacking x = Check.told(CHANGES + "stack a uuddu;stack b ududd;stack c uuuuu;stack e udud;stack f dddu");
        int[] due = {22, 32, 1, 16, 14};
        for (int s = 0; s < 5; s++) {
            Check.due(x, "valley(" + s + ")", x.valley(s), due[s], 0);
        }
        x.slip(4, 3);
        Check.due(x, "valley now", x.valley(4), 1, 0);
        ClosePacking y = Check.told("lab near 0 second 0 third 0 growth 0;stack a uuuuuuuuuuuu");
        Check.due(y, "all rows", y.valley(0), 4096, 0);
    }

    private static void faults() {
        ClosePacking x = Check.told(CHANGES + "stack a uuddu;stack b ud;stack c uuu;stack e udddddd");
        int[] due = {3, -1, 3, -1};
        for (int k = 1; k < 5; k++) {
            Check.due(x, "faultEnergy(0, " + k + ")", x.faultEnergy(0, k), due[k - 1], 0);
        }
        Check.due(x, "faultEnergy(0, 0)", x.faultEnergy(0, 0), -1000000, 2);
        Check.due(x, "faultEnergy(0, 5)", x.faultEnergy(0, 5), -1000000, 2);
        Check.due(x, "faultEnergy(1, 1)", x.faultEnergy(1, 1), -2, 0);
        Check.due(x, "bestFault(0)", x.bestFault(0), 2, 0);
        Check.due(x, "bestFault(1)", x.bestFault(1), 1, 0);
        Check.due(x, "bestFault(2)", x.bestFault(2), 1, 0);
        Check.due(x, "bestFault(3)", x.bestFault(3), 1, 0);
        Check.due("the row stays", x.stack(0, 1), 25);
        x.twin(3);
        x.turn(3);
        Check.due(x, "bestFault now", x.bestFault(3), 6, 0);
    }

    private static void differences() {
        ClosePacking x = Check.told(CHANGES + "stack a uud;stack b uududd;stack c dud;stack e uuu;stack f uuuu");
        Check.due(x, "one and itself", x.differs(1, 1), -2, 0);
        Check.due(x, "turned and twinned", x.differs(0, 2), -2, 0);
        Check.due(x, "as parts", x.differs(3, 4), -2, 0);
        Check.due(x, "by two", x.differs(0, 3), 2, 0);
        Check.due(x, "by four", x.differs(0, 1), 4, 0);
        x.slip(3, 0);
        Check.due(x, "now", x.differs(0, 3), -2, 0);
    }

    private static void refusals() {
        ClosePacking x = Check.told(CHANGES + "stack a uud;stack b ud");
        int[] none = {-1, 2, Integer.MAX_VALUE, Integer.MIN_VALUE};
        for (int s : none) {
            Check.due(x, "slips(s, 0, 0)", x.slips(s, 0, 0), -1, 1);
            Check.due(x, "slips(0, s, 4)", x.slips(0, s, 4), -1, 1);
            Check.due(x, "slipEnergy(s, 9)", x.slipEnergy(s, 9), -1000000, 1);
            Check.due(x, "weakest(s)", x.weakest(s), -1, 1);
            Check.due(x, "relax(s)", x.relax(s), -1, 1);
            Check.due(x, "relaxed(s)", x.relaxed(s), -1, 1);
            Check.due(x, "pass(s, 0)", x.pass(s, 0), -1000000, 1);
            Check.due(x, "pass(0, s)", x.pass(0, s), -1000000, 1);
            Check.due(x, "valley(s)", x.valley(s), -1, 1);
            Check.due(x, "faultEnergy(s, 9)", x.faultEnergy(s, 9), -1000000, 1);
            Check.due(x, "bestFault(s)", x.bestFault(s), -1, 1);
            Check.due(x, "differs(s, 0)", x.differs(s, 0), -1, 1);
            Check.due(x, "differs(0, s)", x.differs(0, s), -1, 1);
        }
        Check.due(x, "slips by how 4", x.slips(0, 0, 4), -1, 2);
        Check.due(x, "slips by how -1", x.slips(0, 1, -1), -1, 2);
    }
}
