/** Promises 6 to 14: what a stack is like now. */
public final class StackTest {
    private static final String TEXT = "lab near 3 second 1 third -1 growth 25;"
            + "stack a uud;stack b dddd;stack c uududd;stack e ud;stack f duuud";

    public static void main(String[] args) {
        stacks();
        sums();
        layersAndHexes();
        runs();
        agreeing();
        shares();
        energies();
        calmest();
        Check.end();
    }

    private static void stacks() {
        ClosePacking x = Check.told(TEXT);
        int[][] due = {{3, 6, 9, 3, 2, 2}, {4, 0, 12, 1, 0, 1}, {6, 52, 6, 6, 4, 4}, {2, 2, 2, 2, 2, 2},
            {5, 14, 15, 5, 2, 2}};
        for (int s = 0; s < due.length; s++) {
            for (int what = 0; what < 6; what++) {
                Check.due(x, "stack(" + s + ", " + what + ")", x.stack(s, what), due[s][what], 0);
            }
        }
        Check.due(x, "stack(0, 6)", x.stack(0, 6), -1, 1);
        Check.due(x, "stack(0, -1)", x.stack(0, -1), -1, 1);
        Check.due(x, "stack(5, 0)", x.stack(5, 0), -1, 1);
        Check.due(x, "stack(-1, 0)", x.stack(-1, 0), -1, 1);

        ClosePacking y = Check.told("lab near 0 second 0 third 0 growth 0;stack a uduudu;stack b uduuudduuduu"
                + ";stack c uududuuduudu;stack e uddudd;stack f udududududud");
        Check.due("six of period 3", y.stack(0, 3), 3);
        Check.due("twelve of period 12", y.stack(1, 3), 12);
        Check.due("twelve of no shorter period", y.stack(2, 3), 12);
        Check.due("ddu twice", y.stack(3, 3), 3);
        Check.due("twelve of period 2", y.stack(4, 3), 2);
        Check.due("twelve runs", y.stack(4, 5), 12);
        Check.due("twelve h", y.stack(4, 4), 12);
        Check.due("6 steps up by 2 repeat after 18", y.stack(0, 2), 18);
        y.slip(0, 0);
        Check.due("now 6 steps closed", y.stack(0, 2), 6);
        Check.due("now another row", y.stack(0, 1), 0b001101);
    }

    private static void sums() {
        ClosePacking x = Check.told(TEXT);
        int[] due = {1, -4, 0, 0, 1};
        for (int s = 0; s < due.length; s++) {
            Check.due(x, "sum(" + s + ")", x.sum(s), due[s], 0);
        }
        Check.due(x, "sum(5)", x.sum(5), -100, 1);
        Check.due(x, "sum(-1)", x.sum(-1), -100, 1);
        x.twin(1);
        Check.due(x, "sum(1) now", x.sum(1), 4, 0);
        ClosePacking y = Check.told("lab near 0 second 0 third 0 growth 0;stack a uuuuuuuuuuuu;stack b dddddddddddd");
        Check.due("the greatest sum", y.sum(0), 12);
        Check.due("the least sum", y.sum(1), -12);
    }

    private static void layersAndHexes() {
        ClosePacking x = Check.told(TEXT);
        String uud = "ABCBCACAB";
        String uududd = "ABCBCB";
        for (int k = 0; k < 36; k++) {
            Check.due(x, "layer(0, " + k + ")", x.layer(0, k), uud.charAt(k % 9) - 'A', 0);
            Check.due(x, "layer(1, " + k + ")", x.layer(1, k), "ACB".charAt(k % 3) - 'A', 0);
            Check.due(x, "layer(2, " + k + ")", x.layer(2, k), uududd.charAt(k % 6) - 'A', 0);
            Check.due(x, "hex(0, " + k + ")", x.hex(0, k), k % 3 == 1 ? 0 : 1, 0);
            Check.due(x, "hex(1, " + k + ")", x.hex(1, k), 0, 0);
            Check.due(x, "hex(2, " + k + ")", x.hex(2, k), k % 6 == 1 || k % 6 == 5 ? 0 : 1, 0);
            Check.due(x, "hex(4, " + k + ")", x.hex(4, k), k % 5 == 1 || k % 5 == 4 ? 1 : 0, 0);
        }
        int[] wrong = {-1, 36, Integer.MAX_VALUE, Integer.MIN_VALUE};
        for (int k : wrong) {
            Check.due(x, "layer(0, " + k + ")", x.layer(0, k), -1, 2);
            Check.due(x, "hex(0, " + k + ")", x.hex(0, k), -1, 2);
            Check.due(x, "layer(5, " + k + ")", x.layer(5, k), -1, 1);
            Check.due(x, "hex(5, " + k + ")", x.hex(5, k), -1, 1);
        }
        Check.due(x, "layer(-1, 0)", x.layer(-1, 0), -1, 1);
        Check.due(x, "hex(-1, 0)", x.hex(-1, 0), -1, 1);
    }

    private static void runs() {
        ClosePacking x = Check.told(TEXT);
        int[][] due = {{2, 1}, {4}, {2, 1, 1, 2}, {1, 1}, {3, 2}};
        for (int s = 0; s < due.length; s++) {
            for (int i = 0; i < due[s].length; i++) {
                Check.due(x, "run(" + s + ", " + i + ")", x.run(s, i), due[s][i], 0);
            }
            Check.due(x, "run behind the last", x.run(s, due[s].length), -1, 1);
            Check.due(x, "run ahead of the first", x.run(s, -1), -1, 1);
        }
        Check.due(x, "run(5, 0)", x.run(5, 0), -1, 1);
        Check.due(x, "run(-1, 0)", x.run(-1, 0), -1, 1);
        ClosePacking y = Check.told("lab near 0 second 0 third 0 growth 0;stack a dddduuduuudd;stack b uuuuuuuuuuuu"
                + ";stack c udddddddddu");
        int[] runs = {2, 1, 3, 6};
        for (int i = 0; i < 4; i++) {
            Check.due("run " + i + " of dddduuduuudd", y.run(0, i), runs[i]);
        }
        Check.due("all alike", y.run(1, 0), 12);
        Check.due("nine down", y.run(2, 0), 9);
        Check.due("two up, going round", y.run(2, 1), 2);
        Check.due(y, "no third", y.run(2, 2), -1, 1);
    }

    private static void agreeing() {
        ClosePacking x = Check.told(TEXT);
        int[] uud = {0, 6, 0, 3, 3, 0, 6, 0, 9};
        int[] uududd = {0, 4, 0, 4, 0, 6};
        for (int m = 1; m <= 36; m++) {
            Check.due(x, "agree(0, " + m + ")", x.agree(0, m), uud[(m - 1) % 9], 0);
            Check.due(x, "agree(1, " + m + ")", x.agree(1, m), m % 3 == 0 ? 12 : 0, 0);
            Check.due(x, "agree(2, " + m + ")", x.agree(2, m), uududd[(m - 1) % 6], 0);
            Check.due(x, "agree(3, " + m + ")", x.agree(3, m), m % 2 == 0 ? 2 : 0, 0);
        }
        int[] wrong = {0, 37, -1, Integer.MAX_VALUE};
        for (int m : wrong) {
            Check.due(x, "agree(0, " + m + ")", x.agree(0, m), -1, 2);
            Check.due(x, "agree(5, " + m + ")", x.agree(5, m), -1, 1);
        }
        Check.due(x, "agree(-1, 1)", x.agree(-1, 1), -1, 1);
    }

    private static void shares() {
        ClosePacking x = Check.told(TEXT);
        int[][] due = {{2, 3}, {0, 1}, {2, 3}, {1, 1}, {2, 5}};
        for (int s = 0; s < due.length; s++) {
            Check.due(x, "share(" + s + ", false)", x.share(s, false), due[s][0], 0);
            Check.due(x, "share(" + s + ", true)", x.share(s, true), due[s][1], 0);
        }
        Check.due(x, "share(5, true)", x.share(5, true), -1, 1);
        Check.due(x, "share(-1, false)", x.share(-1, false), -1, 1);
    }

    private static void energies() {
        ClosePacking x = Check.told(TEXT);
        int[] due = {7, -12, 10, 2, -1 * (3 * 1 + 1 * -3 - 1 * -3)};
        for (int s = 0; s < due.length; s++) {
            Check.due(x, "energy(" + s + ")", x.energy(s), due[s], 0);
        }
        Check.due(x, "energy(5)", x.energy(5), -1000000, 1);
        Check.due(x, "energy(-1)", x.energy(-1), -1000000, 1);
        x.twin(0);
        Check.due("energy of the twin", x.energy(0), 7);
        x.slip(0, 2);
        Check.due("energy now", x.energy(0), -9);
        Check.due("only near", Check.told("lab near 99 second 0 third 0 growth 0;stack a uuud").energy(0), 0);
        Check.due("only second", Check.told("lab near 0 second 99 third 0 growth 0;stack a uuddud").energy(0), 198);
        Check.due("only third", Check.told("lab near 0 second 0 third 99 growth 0;stack a uuddud").energy(0), -198);
        Check.due("most", Check.told("lab near -99 second -99 third -99 growth 0;stack a uuuuuuuuuuuu").energy(0), 3564);
        Check.due("least", Check.told("lab near 99 second 99 third 99 growth 0;stack a uuuuuuuuuuuu").energy(0), -3564);
    }

    private static void calmest() {
        ClosePacking x = Check.told(TEXT);
        Check.due(x, "calmest()", x.calmest(), 1, 0);
        x.slip(1, 0);
        Check.due(x, "calmest() now", x.calmest(), 4, 0);
        String head = "lab near 1 second 0 third 0 growth 0;";
        Check.due("by steps", Check.told(head + "stack a uuuuuddddd;stack b uuu").calmest(), 1);
        Check.due("the first of two", Check.told(head + "stack c ud;stack a uuu;stack b ddddd").calmest(), 1);
        Check.due("-2 by 5 is less than -2 by 6",
                Check.told("lab near 2 second -1 third 0 growth 0;stack a ududud;stack b uudud").calmest(), 1);
        Check.due("of energies above 0", Check.told("lab near -1 second 0 third 0 growth 0;stack a uu;stack b uuuud")
                .calmest(), 1);
        ClosePacking none = new ClosePacking();
        Check.due(none, "calmest() without a lab", none.calmest(), -1, 1);
    }
}
