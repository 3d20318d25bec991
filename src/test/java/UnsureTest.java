/** Promises 37 to 43: steps of which nobody is sure. */
public final class UnsureTest {
    private static final String HEAD = "lab near 0 second 0 third 0 growth 0;";

    public static void main(String[] args) {
        nothingUnsure();
        twoSteps();
        oneFits();
        nothingFits();
        severalStacks();
        asking();
        asTold();
        judging();
        refusals();
        Check.end();
    }

    private static void due(String text, int[] sets, int could, int surely, int ask, int leaves, int judge) {
        dueOf(Check.told(HEAD + text), text, sets, could, surely, ask, leaves, judge);
    }

    private static void dueOf(ClosePacking x, String text, int[] sets, int could, int surely, int ask, int leaves,
            int judge) {
        Check.due(x, "fits() of " + text, x.fits(), sets.length, 0);
        for (int i = 0; i < sets.length; i++) {
            Check.due(x, "fitAt(" + i + ") of " + text, x.fitAt(i), sets[i], 0);
        }
        Check.due(x, "fitAt behind the last of " + text, x.fitAt(sets.length), -1, 1);
        Check.due(x, "fitAt(-1) of " + text, x.fitAt(-1), -1, 1);
        Check.due(x, "could() of " + text, x.could(), could, 0);
        Check.due(x, "surely() of " + text, x.surely(), surely, 0);
        Check.due(x, "ask() of " + text, x.ask(), ask, 0);
        Check.due(x, "askLeaves() of " + text, x.askLeaves(), leaves, 0);
        Check.due(x, "judge() of " + text, x.judge(), judge, 0);
    }

    private static void nothingUnsure() {
        due("stack a uuud", new int[] {0}, 0, 0, -2, -2, -2);
        due("stack a uuud;agreed a 3 3", new int[] {0}, 0, 0, -2, -2, -2);
        due("stack a uuud;agreed a 3 2", new int[0], 0, 0, -2, -2, 0);
    }

    /** Of uuud 3 of 12 layers agree by three; of uuuu 12, of duud 0, of duuu 3 again. */
    private static void twoSteps() {
        due("stack a uuud;unsure a 3;unsure a 0;agreed a 3 3", new int[] {0, 3}, 3, 0, 0, 1, -2);
        due("stack a uuud;unsure a 3;unsure a 0", new int[] {0, 1, 2, 3}, 3, 0, 0, 2, -2);
        due("stack a uuud;unsure a 0;unsure a 1;unsure a 2;unsure a 3",
                new int[] {0, 1, 2, 3, 4, 5, 6, 7, 8, 9, 10, 11, 12, 13, 14, 15}, 15, 0, 0, 8, -2);
    }

    private static void oneFits() {
        due("stack a uuud;unsure a 3;unsure a 0;agreed a 3 12", new int[] {1}, 1, 1, 0, 1, 0);
        due("stack a uuud;unsure a 3;unsure a 0;agreed a 3 0", new int[] {2}, 2, 2, 0, 1, 0);
        due("stack a uuud;unsure a 0;unsure a 3;agreed a 3 0", new int[] {1}, 1, 1, 0, 1, 0);
        due("stack a dddd;unsure a 0;unsure a 1;unsure a 2;unsure a 3;agreed a 3 12", new int[] {0, 15}, 15, 0, 0, 1, -2);
    }

    private static void nothingFits() {
        due("stack a uuud;unsure a 3;unsure a 0;agreed a 3 12;agreed a 1 1", new int[0], 0, 0, -2, -2, 0);
        due("stack a uuud;stack b ud;unsure a 3;agreed b 2 0", new int[0], 0, 0, -2, -2, 0);
    }

    /** Of ud both layers agree by two, of dd and uu none of six. */
    private static void severalStacks() {
        due("stack a uuud;stack b ud;unsure b 0;unsure a 3;agreed b 2 2", new int[] {0, 2}, 2, 0, 1, 1, -2);
        due("stack a uuud;stack b ud;unsure b 0;unsure a 3;unsure b 1;agreed b 2 2", new int[] {0, 2, 5, 7}, 7, 0, 0, 2,
                -2);
        due("stack a uuud;stack b ud;unsure b 0;unsure a 3;unsure b 1;agreed b 2 0;agreed a 3 12",
                new int[] {3, 6}, 7, 2, 0, 1, 0);
    }

    private static void asking() {
        // All of the fits have the first, so that it tells nothing; the third leaves 2 at most, as the fourth does.
        due("stack a uud;stack b ud;stack c ud;unsure b 0;unsure a 2;unsure c 0;unsure c 1;agreed b 2 0;agreed a 2 6",
                new int[] {1, 5, 9, 13}, 13, 1, 2, 2, 0);
    }

    private static void asTold() {
        String text = "stack a uuud;unsure a 3;unsure a 0;agreed a 3 3;agreed a 1 0";
        ClosePacking x = Check.told(HEAD + text);
        x.slip(0, 3);
        x.cut(0);
        x.image();
        dueOf(x, text, new int[] {0, 3}, 3, 0, 0, 1, -2);
        x.back(0);
        x.cut(0);
        dueOf(x, text, new int[] {0, 3}, 3, 0, 0, 1, -2);
    }

    private static void judging() {
        String stacks = "stack a uuud;stack b ud;";
        due(stacks + "agreed b 2 2;agreed a 3 3;agreed a 1 0", new int[] {0}, 0, 0, -2, -2, -2);
        due(stacks + "agreed b 2 2;agreed a 3 4;agreed a 1 1", new int[0], 0, 0, -2, -2, 1);
        due(stacks + "agreed b 36 2;agreed b 35 0;agreed a 36 12;agreed a 1 0;agreed a 2 6;agreed a 3 0", new int[0], 0, 0,
                -2, -2, 5);
        due("stack a uuuuuuuuuuud;agreed a 36 36;agreed a 35 0", new int[] {0}, 0, 0, -2, -2, -2);
        due("stack a uuuuuuuuuuud;agreed a 36 35", new int[0], 0, 0, -2, -2, 0);
    }

    private static void refusals() {
        ClosePacking x = new ClosePacking();
        Check.due(x, "fits() without a lab", x.fits(), -1, 1);
        Check.due(x, "fitAt(0) without a lab", x.fitAt(0), -1, 1);
        Check.due(x, "could() without a lab", x.could(), -1, 1);
        Check.due(x, "surely() without a lab", x.surely(), -1, 1);
        Check.due(x, "ask() without a lab", x.ask(), -1, 1);
        Check.due(x, "askLeaves() without a lab", x.askLeaves(), -1, 1);
        Check.due(x, "judge() without a lab", x.judge(), -1, 1);
        ClosePacking y = Check.told(HEAD + "stack a ud;unsure a 0");
        int[] wrong = {2, 16, 31, 32, 33, -1, -32, Integer.MAX_VALUE, Integer.MIN_VALUE};
        for (int i : wrong) {
            Check.due(y, "fitAt(" + i + ")", y.fitAt(i), -1, 1);
        }
    }
}
