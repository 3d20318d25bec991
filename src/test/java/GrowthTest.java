/** Promises 44 to 48: growth by chance, and by a seed. */
public final class GrowthTest {
    public static void main(String[] args) {
        odds();
        rowOdds();
        means();
        grown();
        longest();
        refusals();
        Check.end();
    }

    private static ClosePacking lab(int growth) {
        return Check.told("lab near 0 second 0 third 0 growth " + growth
                + ";stack a uud;stack b uuuu;stack c udududud;stack e uuuuuuuuu;stack f dd");
    }

    private static void dueOdds(ClosePacking x, int n, int changes, long upper, long lower) {
        Check.due(x, "odds(" + n + ", " + changes + ", false)", x.odds(n, changes, false), upper, 0);
        Check.due(x, "odds(" + n + ", " + changes + ", true)", x.odds(n, changes, true), lower, 0);
    }

    private static void odds() {
        ClosePacking x = lab(25);
        dueOdds(x, 1, 0, 1, 1);
        dueOdds(x, 2, 0, 1, 4);
        dueOdds(x, 2, 1, 1, 1);
        dueOdds(x, 3, 0, 1, 16);
        dueOdds(x, 3, 1, 7, 16);
        dueOdds(x, 3, 2, 1, 1);
        dueOdds(x, 3, 7, 1, 1);
        dueOdds(x, 8, 0, 1, 16384);
        dueOdds(x, 8, 1, 11, 8192);
        dueOdds(x, 8, 7, 1, 1);
        ClosePacking y = lab(33);
        dueOdds(y, 8, 0, 42618442977L, 100000000000000L);
        dueOdds(lab(0), 8, 6, 0, 1);
        dueOdds(lab(0), 8, 7, 1, 1);
        dueOdds(lab(0), 1, 0, 1, 1);
        dueOdds(lab(100), 8, 0, 1, 1);
        dueOdds(lab(50), 5, 2, 11, 16);
    }

    private static void rowOdds() {
        int[][] due = {{3, 16}, {1, 64}, {2187, 16384}, {-1, -1}, {1, 4}};
        ClosePacking x = lab(25);
        for (int s = 0; s < due.length; s++) {
            int trouble = s == 3 ? 5 : 0;
            Check.due(x, "rowOdds(" + s + ", false)", x.rowOdds(s, false), due[s][0], trouble);
            Check.due(x, "rowOdds(" + s + ", true)", x.rowOdds(s, true), due[s][1], trouble);
        }
        x.twin(0);
        Check.due(x, "rowOdds of the twin", x.rowOdds(0, false), 3, 0);
        x.turn(0);
        Check.due(x, "rowOdds of the turned one", x.rowOdds(0, false), 9, 0);
        x.cut(3);
        Check.due(x, "rowOdds of eight", x.rowOdds(3, true), 16384, 0);
        ClosePacking y = lab(0);
        Check.due(y, "never alike", y.rowOdds(1, false), 0, 0);
        Check.due(y, "0 by 1", y.rowOdds(1, true), 1, 0);
        Check.due(y, "always other ones", y.rowOdds(2, false), 1, 0);
        ClosePacking z = lab(100);
        Check.due(z, "always alike", z.rowOdds(1, false), 1, 0);
        Check.due(z, "never other ones", z.rowOdds(2, false), 0, 0);
    }

    private static void dueMean(ClosePacking x, int n, long upper, long lower) {
        Check.due(x, "meanSum(" + n + ", false)", x.meanSum(n, false), upper, 0);
        Check.due(x, "meanSum(" + n + ", true)", x.meanSum(n, true), lower, 0);
    }

    private static void means() {
        int[][] quarter = {{1, 1}, {1, 2}, {3, 4}, {5, 8}, {11, 16}, {21, 32}, {43, 64}, {85, 128}};
        for (int n = 1; n <= 8; n++) {
            dueMean(lab(25), n, quarter[n - 1][0], quarter[n - 1][1]);
            dueMean(lab(0), n, n % 2, 1);
            dueMean(lab(50), n, 1, 1);
            dueMean(lab(100), n, n, 1);
        }
        dueMean(lab(75), 3, 7, 4);
        dueMean(lab(1), 2, 1, 50);
        dueMean(lab(99), 8, meanUpper(49, 50, 8), 781250000000L);
    }

    private static long meanUpper(long q, long by, int n) {
        long upper = 0;
        for (int k = 0; k < n; k++) {
            long term = 1;
            for (int i = 1; i < n; i++) {
                term *= i <= k ? q : by;
            }
            upper += term;
        }
        return upper;
    }

    /** From 5 the draws are 449, 33749, 40843: 49, 49, 43 of a hundred. */
    private static void grown() {
        int[] growths = {43, 44, 49, 50, 0, 100};
        int[] rows = {0b1010, 0b1011, 0b1011, 0b1111, 0b1010, 0b1111};
        for (int i = 0; i < growths.length; i++) {
            ClosePacking x = lab(growths[i]);
            Check.due(x, "grown(5, 4) by " + growths[i], x.grown(5, 4), rows[i], 0);
            Check.due(x, "grown(5, 1) by " + growths[i], x.grown(5, 1), 1, 0);
            Check.due(x, "longestRun(5, 4) by " + growths[i], x.longestRun(5, 4), new int[] {1, 2, 2, 4, 1, 4}[i], 0);
        }
        // From 65536 the draws are 65536 again, for -75 and 74 is -1: 36 of a hundred each time. From 0 first 74.
        Check.due("grown(65536, 12) by 37", lab(37).grown(65536, 12), 4095);
        Check.due("grown(65536, 12) by 36", lab(36).grown(65536, 12), 0xaaa);
        Check.due("grown(0, 2) by 74", lab(74).grown(0, 2), 2);
        Check.due("grown(0, 2) by 75", lab(75).grown(0, 2), 3);
    }

    private static void longest() {
        Check.due("all alike", lab(37).longestRun(65536, 200), 200);
        Check.due("none alike", lab(36).longestRun(65536, 200), 1);
        Check.due("one step", lab(37).longestRun(65536, 1), 1);
        for (int seed = 0; seed <= 65536; seed += 911) {
            ClosePacking x = lab(60);
            long draw = seed;
            int run = 1;
            int longest = 1;
            for (int n = 2; n <= 200; n++) {
                draw = (75 * draw + 74) % 65537;
                run = draw % 100 < 60 ? run + 1 : 1;
                longest = Math.max(longest, run);
                if (n % 33 == 2) {
                    Check.due(x, "longestRun(" + seed + ", " + n + ")", x.longestRun(seed, n), longest, 0);
                }
            }
        }
    }

    private static void refusals() {
        ClosePacking x = lab(50);
        ClosePacking none = new ClosePacking();
        int[][] odds = {{0, 0}, {9, 0}, {-1, 0}, {1, -1}, {1, 8}, {Integer.MAX_VALUE, 0}, {1, Integer.MIN_VALUE}};
        for (int[] o : odds) {
            Check.due(x, "odds(" + o[0] + ", " + o[1] + ")", x.odds(o[0], o[1], true), -1, 2);
            Check.due(none, "odds(" + o[0] + ", " + o[1] + ") without a lab", none.odds(o[0], o[1], false), -1, 1);
        }
        int[] sums = {0, 9, -1, Integer.MAX_VALUE, Integer.MIN_VALUE};
        for (int n : sums) {
            Check.due(x, "meanSum(" + n + ")", x.meanSum(n, true), -1000000, 2);
            Check.due(none, "meanSum(" + n + ") without a lab", none.meanSum(n, true), -1000000, 1);
        }
        int[][] seeds = {{-1, 1}, {65537, 1}, {0, 0}, {0, 201}, {0, -1}, {Integer.MAX_VALUE, 5}, {5, Integer.MIN_VALUE}};
        for (int[] g : seeds) {
            Check.due(x, "grown(" + g[0] + ", " + g[1] + ")", x.grown(g[0], g[1]), -1, 2);
            Check.due(x, "longestRun(" + g[0] + ", " + g[1] + ")", x.longestRun(g[0], g[1]), -1, 2);
            Check.due(none, "grown without a lab", none.grown(g[0], g[1]), -1, 1);
            Check.due(none, "longestRun without a lab", none.longestRun(g[0], g[1]), -1, 1);
        }
        Check.due(x, "grown(0, 13)", x.grown(0, 13), -1, 2);
        Check.due(none, "odds without a lab", none.odds(1, 0, false), -1, 1);
        Check.due(none, "meanSum without a lab", none.meanSum(1, false), -1000000, 1);
        Check.due(none, "grown without a lab", none.grown(0, 1), -1, 1);
        Check.due(none, "longestRun without a lab", none.longestRun(0, 1), -1, 1);
        Check.due(x, "rowOdds(5, true)", x.rowOdds(5, true), -1, 1);
        Check.due(x, "rowOdds(-1, true)", x.rowOdds(-1, true), -1, 1);
        Check.due(none, "rowOdds(0, true) without a lab", none.rowOdds(0, true), -1, 1);
    }
}
