import java.util.function.Supplier;

/** Boundary cases of promises 44 to 48: one step and eight, twelve and two hundred; growth 0 and 100; seeds. */
public final class EdgesOfGrowthTest {
    private static final long HUNDRED_TO_SEVEN = 100000000000000L;

    public static void main(String[] args) {
        oddsOfOne();
        oddsOfEight();
        oddsOfAllChanges();
        oddsRefused();
        rowOdds();
        rowOddsRefused();
        means();
        meansNotBelowNought();
        meansRefused();
        grownOfOneAndTwelve();
        seeds();
        belowGrowth();
        longestRuns();
        grownRefused();
        Check.end();
    }

    private static ClosePacking lab(int growth) {
        return Edge.lab(0, 0, 0, growth, "ud");
    }

    private static void dueOdds(int growth, int n, int changes, long upper, long lower) {
        ClosePacking x = lab(growth);
        String what = "odds(" + n + ", " + changes + ") by " + growth;
        Edge.taken(what, x, y -> y.odds(n, changes, false), upper);
        Edge.taken(what + ", lower", x, y -> y.odds(n, changes, true), lower);
    }

    private static void oddsOfOne() {
        int[] growths = {0, 1, 50, 99, 100};
        for (int growth : growths) {
            dueOdds(growth, 1, 0, 1, 1);
            dueOdds(growth, 1, 1, 1, 1);
            dueOdds(growth, 1, 7, 1, 1);
        }
    }

    private static void oddsOfEight() {
        dueOdds(99, 8, 0, 93206534790699L, HUNDRED_TO_SEVEN);
        dueOdds(1, 8, 0, 1, HUNDRED_TO_SEVEN);
        dueOdds(1, 8, 6, 6793465209301L, HUNDRED_TO_SEVEN);
        dueOdds(99, 8, 6, 99999999999999L, HUNDRED_TO_SEVEN);
        dueOdds(33, 8, 3, 841070590173L, 5000000000000L);
        dueOdds(40, 8, 3, 4528, 15625);
        dueOdds(50, 8, 3, 1, 2);
        dueOdds(33, 8, 7, 1, 1);
    }

    /** "or fewer": never and always; more changes than there can be are all there are. */
    private static void oddsOfAllChanges() {
        for (int n = 2; n <= 8; n++) {
            for (int changes = 0; changes <= 7; changes++) {
                dueOdds(0, n, changes, changes >= n - 1 ? 1 : 0, 1);
                dueOdds(100, n, changes, 1, 1);
                if (changes >= n - 1) {
                    dueOdds(37, n, changes, 1, 1);
                }
            }
            dueOdds(50, n, 0, 1, 1 << n - 1);
            dueOdds(50, n, n - 2, (1 << n - 1) - 1, 1 << n - 1);
        }
    }

    private static void oddsRefused() {
        int[][] wrong = {{0, 0}, {9, 0}, {-1, 0}, {1, -1}, {1, 8}, {8, -1}, {8, 8}, {0, 8}, {Integer.MAX_VALUE, 7},
            {Integer.MIN_VALUE, 0}, {8, Integer.MAX_VALUE}, {8, Integer.MIN_VALUE}};
        for (int[] w : wrong) {
            String what = "odds(" + w[0] + ", " + w[1] + ")";
            Edge.refused(what, Edge::fewest, x -> x.odds(w[0], w[1], false), -1, 2);
            Edge.refused(what + ", lower", Edge::most, x -> x.odds(w[0], w[1], true), -1, 2);
            Edge.refused(what + " without a lab", Edge::none, x -> x.odds(w[0], w[1], true), -1, 1);
        }
        Edge.refused("odds(1, 0) without a lab", Edge::none, x -> x.odds(1, 0, false), -1, 1);
        Edge.refused("odds(8, 7) without a lab", Edge::none, x -> x.odds(8, 7, true), -1, 1);
    }

    private static void dueRowOdds(int growth, String row, long upper, long lower) {
        ClosePacking x = Edge.lab(0, 0, 0, growth, row);
        Edge.taken("rowOdds of " + row + " by " + growth, x, y -> y.rowOdds(0, false), upper);
        Edge.taken("rowOdds of " + row + " by " + growth + ", lower", x, y -> y.rowOdds(0, true), lower);
    }

    /** Of two steps and of eight; "the first one like its own", up or down; never and always. */
    private static void rowOdds() {
        dueRowOdds(1, "uu", 1, 100);
        dueRowOdds(1, "dd", 1, 100);
        dueRowOdds(1, "ud", 99, 100);
        dueRowOdds(1, "du", 99, 100);
        dueRowOdds(0, "uu", 0, 1);
        dueRowOdds(0, "ud", 1, 1);
        dueRowOdds(100, "dd", 1, 1);
        dueRowOdds(100, "du", 0, 1);
        dueRowOdds(0, "udududud", 1, 1);
        dueRowOdds(0, "ududuudu", 0, 1);
        dueRowOdds(100, "dddddddd", 1, 1);
        dueRowOdds(100, "dddddddu", 0, 1);
        dueRowOdds(1, "uuuuuuuu", 1, HUNDRED_TO_SEVEN);
        dueRowOdds(99, "uuuuuuuu", 93206534790699L, HUNDRED_TO_SEVEN);
        dueRowOdds(1, "dudududu", 93206534790699L, HUNDRED_TO_SEVEN);
        dueRowOdds(50, "uudduddu", 1, 128);
        // Not going round: one change, though the last step is unlike the first.
        dueRowOdds(25, "uuud", 3, 64);
        dueRowOdds(25, "uudu", 9, 64);
    }

    private static void rowOddsRefused() {
        Supplier<ClosePacking> scene = () -> Edge.stacks("uuuuuuuuu", "uuuuuuuuuuuu", "uuuuuuuu");
        for (int s = 0; s < 2; s++) {
            int stack = s;
            Edge.refused("rowOdds of more than 8", scene, x -> x.rowOdds(stack, false), -1, 5);
            Edge.refused("rowOdds of more than 8, lower", scene, x -> x.rowOdds(stack, true), -1, 5);
        }
        ClosePacking x = scene.get();
        Edge.taken("rowOdds of eight", x, y -> y.rowOdds(2, true), 1);
        x.grow(2, true);
        Check.due(x, "rowOdds of nine now", x.rowOdds(2, true), -1, 5);
        x.cut(0);
        Edge.taken("rowOdds of eight now", x, y -> y.rowOdds(0, false), 0);
        int[] wrong = {-1, 5, Integer.MAX_VALUE, Integer.MIN_VALUE};
        for (int s : wrong) {
            Edge.refused("rowOdds(" + s + ")", Edge::most, y -> y.rowOdds(s, false), -1, 1);
            Edge.refused("rowOdds(" + s + "), lower", Edge::most, y -> y.rowOdds(s, true), -1, 1);
        }
        Edge.refused("rowOdds(1) of one", Edge::fewest, y -> y.rowOdds(1, true), -1, 1);
        Edge.refused("rowOdds(0) without a lab", Edge::none, y -> y.rowOdds(0, false), -1, 1);
    }

    private static void dueMean(int growth, int n, long upper, long lower) {
        ClosePacking x = lab(growth);
        Edge.taken("meanSum(" + n + ") by " + growth, x, y -> y.meanSum(n, false), upper);
        Edge.taken("meanSum(" + n + ") by " + growth + ", lower", x, y -> y.meanSum(n, true), lower);
    }

    private static void means() {
        for (int n = 1; n <= 8; n++) {
            dueMean(0, n, n % 2, 1);
            dueMean(50, n, 1, 1);
            dueMean(100, n, n, 1);
        }
        dueMean(1, 1, 1, 1);
        dueMean(99, 1, 1, 1);
        dueMean(1, 2, 1, 50);
        dueMean(99, 2, 99, 50);
        dueMean(1, 8, 58884539701L, 781250000000L);
        dueMean(99, 8, 5829569430399L, 781250000000L);
        dueMean(33, 8, 582918272277L, 781250000000L);
        dueMean(25, 8, 85, 128);
    }

    /** "the lower one isn't" below 0; the upper one might be, but the first step is up, and as much as the others. */
    private static void meansNotBelowNought() {
        for (int growth = 0; growth <= 100; growth++) {
            ClosePacking x = lab(growth);
            for (int n = 1; n <= 8; n++) {
                Check.due("lower WHOLE by " + growth, x.meanSum(n, true) > 0, true);
                Check.due("upper WHOLE by " + growth, x.meanSum(n, false) >= 0, true);
            }
        }
    }

    private static void meansRefused() {
        int[] wrong = {0, 9, -1, Integer.MAX_VALUE, Integer.MIN_VALUE};
        for (int n : wrong) {
            Edge.refused("meanSum(" + n + ")", Edge::fewest, x -> x.meanSum(n, false), -1000000, 2);
            Edge.refused("meanSum(" + n + "), lower", Edge::most, x -> x.meanSum(n, true), -1000000, 2);
            Edge.refused("meanSum(" + n + ") without a lab", Edge::none, x -> x.meanSum(n, true), -1000000, 1);
        }
        Edge.refused("meanSum(1) without a lab", Edge::none, x -> x.meanSum(1, false), -1000000, 1);
        Edge.refused("meanSum(8) without a lab", Edge::none, x -> x.meanSum(8, true), -1000000, 1);
    }

    private static void grownOfOneAndTwelve() {
        int[] seeds = {0, 1, 32768, 65535, 65536};
        for (int seed : seeds) {
            for (int growth = 0; growth <= 100; growth += 50) {
                Edge.taken("grown(" + seed + ", 1)", lab(growth), x -> x.grown(seed, 1), 1);
            }
            Edge.taken("never like it: " + seed, lab(0), x -> x.grown(seed, 12), 0xaaa);
            Edge.taken("always like it: " + seed, lab(100), x -> x.grown(seed, 12), 4095);
            Edge.taken("never like it, two: " + seed, lab(0), x -> x.grown(seed, 2), 2);
            Edge.taken("always like it, two: " + seed, lab(100), x -> x.grown(seed, 2), 3);
        }
        Edge.taken("by turns of chance", lab(50), x -> x.grown(1, 12), 0b111110010111);
    }

    /** From 65,536 each draw is 65,536 again: 36. From 0: 74, 5624, 28652, 51790. From 65,535: 61, 11, 83. */
    private static void seeds() {
        Edge.taken("36 is below 37", lab(37), x -> x.grown(65536, 12), 4095);
        Edge.taken("36 isn't below 36", lab(36), x -> x.grown(65536, 12), 0xaaa);
        Edge.taken("74, 24, 52, 90 by 75", lab(75), x -> x.grown(0, 5), 0b11110);
        Edge.taken("74, 24, 52, 90 by 74", lab(74), x -> x.grown(0, 5), 0b10001);
        Edge.taken("74, 24, 52, 90 by 52", lab(52), x -> x.grown(0, 5), 0b10010);
        Edge.taken("61, 11, 83 by 50", lab(50), x -> x.grown(65535, 4), 0b1001);
        ClosePacking x = lab(50);
        int first = x.grown(1, 12);
        x.longestRun(77, 200);
        Check.due("a seed is of its call alone", x.grown(1, 12), first);
    }

    /** "below growth it is like the one ahead": a draw of 0 by growth 0 and 1, a draw of 99 by 99 and 100. */
    private static void belowGrowth() {
        Edge.taken("0 by 0", lab(0), x -> x.grown(1748, 2), 2);
        Edge.taken("0 by 1", lab(1), x -> x.grown(1748, 2), 3);
        Edge.taken("99 by 99", lab(99), x -> x.grown(3, 2), 2);
        Edge.taken("99 by 100", lab(100), x -> x.grown(3, 2), 3);
        Edge.taken("99, 99, 74 by 99", lab(99), x -> x.grown(3, 4), 0b1011);
        Edge.taken("a run of them by 99", lab(99), x -> x.longestRun(3, 4), 2);
    }

    /** Of one STEP and of two hundred; at the beginning, at the end; "(not going round)". */
    private static void longestRuns() {
        int[] seeds = {0, 1, 65535, 65536};
        for (int seed : seeds) {
            Edge.taken("longestRun(" + seed + ", 1)", lab(50), x -> x.longestRun(seed, 1), 1);
            Edge.taken("longestRun(" + seed + ", 1) by 0", lab(0), x -> x.longestRun(seed, 1), 1);
            Edge.taken("longestRun(" + seed + ", 200) by 0", lab(0), x -> x.longestRun(seed, 200), 1);
            for (int n : new int[] {1, 2, 199, 200}) {
                Edge.taken("longestRun(" + seed + ", " + n + ") by 100", lab(100), x -> x.longestRun(seed, n), n);
            }
        }
        Edge.taken("the longest at the end", lab(50), x -> x.longestRun(1113, 200), 11);
        Edge.taken("one step less", lab(50), x -> x.longestRun(1113, 199), 10);
        Edge.taken("the longest at the beginning", lab(50), x -> x.longestRun(461, 200), 8);
        // 5, 2, 1, 1, 3: the last ones and the first would be 8, going round.
        Edge.taken("not going round", lab(50), x -> x.longestRun(1, 12), 5);
    }

    private static void grownRefused() {
        int[][] wrong = {{-1, 1}, {65537, 1}, {0, 0}, {65536, 0}, {0, -1}, {-1, 0}, {Integer.MAX_VALUE, 12},
            {Integer.MIN_VALUE, 12}, {0, Integer.MAX_VALUE}, {0, Integer.MIN_VALUE}, {0, 201}, {65537, 200}, {-1, 200}};
        for (int[] w : wrong) {
            String of = "(" + w[0] + ", " + w[1] + ")";
            Edge.refused("grown" + of, Edge::fewest, x -> x.grown(w[0], w[1]), -1, 2);
            Edge.refused("longestRun" + of, Edge::most, x -> x.longestRun(w[0], w[1]), -1, 2);
            Edge.refused("grown" + of + " without a lab", Edge::none, x -> x.grown(w[0], w[1]), -1, 1);
            Edge.refused("longestRun" + of + " without a lab", Edge::none, x -> x.longestRun(w[0], w[1]), -1, 1);
        }
        Edge.refused("grown(0, 13)", Edge::most, x -> x.grown(0, 13), -1, 2);
        Edge.taken("longestRun(0, 13)", lab(100), x -> x.longestRun(0, 13), 13);
        Edge.refused("grown(0, 1) without a lab", Edge::none, x -> x.grown(0, 1), -1, 1);
        Edge.refused("grown(65536, 12) without a lab", Edge::none, x -> x.grown(65536, 12), -1, 1);
        Edge.refused("longestRun(0, 1) without a lab", Edge::none, x -> x.longestRun(0, 1), -1, 1);
        Edge.refused("longestRun(65536, 200) without a lab", Edge::none, x -> x.longestRun(65536, 200), -1, 1);
    }
}
