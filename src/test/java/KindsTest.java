/** Promises 23 to 26: kinds of rows. */
public final class KindsTest {
    private static final String HEAD = "lab near 0 second 0 third 0 growth 0;";

    public static void main(String[] args) {
        kinds();
        alikeByHow();
        leastAndMany();
        refusals();
        Check.end();
    }

    /** The first, the second and the fourth row are known: necklaces of two colours, up to what is left out. */
    private static void kinds() {
        int[][] all = {{2, 3, 4, 6, 8, 14, 20, 36, 60, 108, 188, 352}, {1, 2, 2, 4, 4, 8, 10, 20, 30, 56, 94, 180},
            {1, 2, 2, 4, 4, 9, 10, 22, 30, 62, 94, 192}, {1, 2, 2, 4, 4, 8, 9, 18, 23, 44, 63, 122}};
        int[][] closed = {{0, 1, 2, 2, 2, 6, 6, 12, 22, 36, 62, 120}, {0, 1, 1, 2, 1, 4, 3, 8, 11, 20, 31, 64},
            {0, 1, 1, 2, 1, 5, 3, 10, 11, 26, 31, 76}, {0, 1, 1, 2, 1, 4, 3, 8, 8, 18, 21, 48}};
        ClosePacking x = Check.told(HEAD + "stack a ud");
        for (int how = 0; how <= 3; how++) {
            for (int n = 1; n <= 12; n++) {
                String call = "kinds(" + n + ", " + how + ", ";
                Check.due(x, call + "false)", x.kinds(n, how, false), all[how][n - 1], 0);
                Check.due(x, call + "true)", x.kinds(n, how, true), closed[how][n - 1], 0);
            }
        }
    }

    private static void alikeByHow() {
        ClosePacking x = Check.told(HEAD + "stack a uuududd;stack b uududdu;stack c ddduduu;stack e uududdd;stack f dduduuu");
        int[][] due = {{1, 1, 1, 1}, {1, 1, 1, 1}, {0, 1, 0, 1}, {0, 0, 1, 1}, {0, 0, 0, 1}};
        for (int t = 0; t < 5; t++) {
            for (int how = 0; how <= 3; how++) {
                Check.due(x, "alike(0, " + t + ", " + how + ")", x.alike(0, t, how), due[t][how], 0);
                Check.due(x, "alike(" + t + ", 0, " + how + ")", x.alike(t, 0, how), due[t][how], 0);
                Check.due("slips of it", x.slips(0, t, how) == 0, due[t][how] == 1);
            }
        }
        x.slip(0, 6);
        Check.due(x, "alike now", x.alike(0, 1, 0), 0, 0);
        ClosePacking y = Check.told(HEAD + "stack a uu;stack b uuuu;stack c ud;stack e dd");
        Check.due(y, "not as many", y.alike(0, 1, 3), 0, 0);
        Check.due(y, "twinned", y.alike(0, 3, 1), 1, 0);
        Check.due(y, "from below", y.alike(0, 3, 2), 1, 0);
        Check.due(y, "not turned", y.alike(0, 3, 0), 0, 0);
        Check.due(y, "other ones", y.alike(0, 2, 3), 0, 0);
    }

    private static void leastAndMany() {
        ClosePacking x = Check.told(HEAD + "stack a uududd;stack b uuududd;stack c uduudu;stack e dddd;stack f uuuuuuuuuuuu");
        int[][] least = {{13, 11, 13, 11}, {29, 11, 13, 11}, {27, 9, 9, 9}, {0, 0, 0, 0}, {4095, 0, 0, 0}};
        int[][] many = {{6, 12, 6, 12}, {7, 14, 14, 28}, {3, 6, 6, 6}, {1, 2, 2, 2}, {1, 2, 2, 2}};
        for (int s = 0; s < 5; s++) {
            for (int how = 0; how <= 3; how++) {
                Check.due(x, "least(" + s + ", " + how + ")", x.least(s, how), least[s][how], 0);
                Check.due(x, "manyAlike(" + s + ", " + how + ")", x.manyAlike(s, how), many[s][how], 0);
            }
        }
        x.slip(3, 1);
        Check.due(x, "least now", x.least(3, 0), 1, 0);
        Check.due(x, "many now", x.manyAlike(3, 0), 4, 0);
    }

    private static void refusals() {
        ClosePacking x = Check.told(HEAD + "stack a ud;stack b uud");
        ClosePacking none = new ClosePacking();
        int[] wrongHow = {-1, 4, Integer.MAX_VALUE, Integer.MIN_VALUE};
        for (int how : wrongHow) {
            Check.due(x, "kinds(3, " + how + ")", x.kinds(3, how, true), -1, 2);
            Check.due(x, "alike(0, 0, " + how + ")", x.alike(0, 0, how), -1, 2);
            Check.due(x, "alike(0, 1, " + how + ")", x.alike(0, 1, how), -1, 2);
            Check.due(x, "least(0, " + how + ")", x.least(0, how), -1, 2);
            Check.due(x, "manyAlike(0, " + how + ")", x.manyAlike(0, how), -1, 2);
            Check.due(x, "alike(2, 0, " + how + ")", x.alike(2, 0, how), -1, 1);
            Check.due(x, "least(2, " + how + ")", x.least(2, how), -1, 1);
            Check.due(x, "manyAlike(2, " + how + ")", x.manyAlike(2, how), -1, 1);
            Check.due(none, "kinds(3, " + how + ") without a lab", none.kinds(3, how, true), -1, 1);
        }
        int[] wrongNumber = {0, 13, -1, Integer.MAX_VALUE, Integer.MIN_VALUE};
        for (int n : wrongNumber) {
            Check.due(x, "kinds(" + n + ", 0)", x.kinds(n, 0, false), -1, 2);
        }
        Check.due(x, "alike(0, 2, 0)", x.alike(0, 2, 0), -1, 1);
        Check.due(x, "alike(0, -1, 0)", x.alike(0, -1, 0), -1, 1);
        Check.due(x, "alike(-1, 0, 0)", x.alike(-1, 0, 0), -1, 1);
        Check.due(x, "least(-1, 0)", x.least(-1, 0), -1, 1);
        Check.due(x, "manyAlike(-1, 0)", x.manyAlike(-1, 0), -1, 1);
        Check.due(none, "kinds(1, 0) without a lab", none.kinds(1, 0, false), -1, 1);
    }
}
