/** Promises 15 to 18: lines that go out. */
public final class LinesTest {
    private static final String HEAD = "lab near 0 second 0 third 0 growth 0;";

    public static void main(String[] args) {
        closedStacks();
        turningStacks();
        refusals();
        sameLines();
        everyRow();
        Check.end();
    }

    private static void dueOut(ClosePacking x, int s, String due) {
        int many = 0;
        int first = -2;
        for (int l = due.length() - 1; l >= 0; l--) {
            int out = due.charAt(l) - '0';
            many += out;
            first = out == 0 && l > 0 ? l : first;
            Check.due(x, "out(" + s + ", " + l + ")", x.out(s, l), out, 0);
        }
        Check.due(x, "no line " + due.length(), x.out(s, due.length()), -1, 2);
        Check.due(x, "outs(" + s + ")", x.outs(s), many, 0);
        Check.due(x, "firstLine(" + s + ")", x.firstLine(s), first, 0);
    }

    private static void closedStacks() {
        ClosePacking x = Check.told(HEAD + "stack a ud;stack b udud;stack c uuu;stack e ddd;stack f uuuuuu");
        dueOut(x, 0, "00");
        dueOut(x, 1, "0101");
        dueOut(x, 2, "110");
        dueOut(x, 3, "101");
        dueOut(x, 4, "111101");
    }

    private static void turningStacks() {
        // Stacks that repeat after 3 N and go up by one letter in all keep lines 2, 5, 8 .. alone; by two, 1, 4, 7 ..
        ClosePacking x = Check.told(HEAD + "stack a uud;stack b dd;stack c uu;stack e uuuuu;stack f dddd");
        dueOut(x, 0, "110110110");
        dueOut(x, 1, "110111");
        dueOut(x, 2, "111101");
        dueOut(x, 3, "111111111101111");
        dueOut(x, 4, "111101111111");
    }

    private static void refusals() {
        ClosePacking x = Check.told(HEAD + "stack a uuuu;stack b ud");
        int[] wrong = {-1, 12, 13, Integer.MAX_VALUE, Integer.MIN_VALUE};
        for (int l : wrong) {
            Check.due(x, "out(0, " + l + ")", x.out(0, l), -1, 2);
            Check.due(x, "out(2, " + l + ")", x.out(2, l), -1, 1);
        }
        Check.due(x, "out(1, 2)", x.out(1, 2), -1, 2);
        Check.due(x, "out(0, 11)", x.out(0, 11), 1, 0);
        Check.due(x, "out(-1, 0)", x.out(-1, 0), -1, 1);
        Check.due(x, "outs(2)", x.outs(2), -1, 1);
        Check.due(x, "outs(-1)", x.outs(-1), -1, 1);
        Check.due(x, "firstLine(2)", x.firstLine(2), -1, 1);
        Check.due(x, "firstLine(-1)", x.firstLine(-1), -1, 1);
    }

    private static void sameLines() {
        ClosePacking x = Check.told(HEAD + "stack a uud;stack b udu;stack c dud;stack e uuuuuuuuu;stack f dddddddddddd");
        Check.due(x, "one and itself", x.sameLines(3, 3), 1, 0);
        Check.due(x, "turned", x.sameLines(0, 1), 1, 0);
        Check.due(x, "twinned", x.sameLines(0, 2), 0, 0);
        Check.due(x, "of other lengths", x.sameLines(0, 3), 0, 0);
        Check.due(x, "not as many", x.sameLines(0, 4), -1, 5);
        Check.due(x, "sameLines(0, 5)", x.sameLines(0, 5), -1, 1);
        Check.due(x, "sameLines(5, 0)", x.sameLines(5, 0), -1, 1);
        Check.due(x, "sameLines(-1, 0)", x.sameLines(-1, 0), -1, 1);
        Check.due(x, "sameLines(0, -1)", x.sameLines(0, -1), -1, 1);
        ClosePacking y = Check.told(HEAD + "stack a udud;stack b udddd;stack c uuuudd;stack e uudd");
        Check.due(y, "as many layers, other lines", y.sameLines(0, 3), 0, 0);
        y.slip(0, 1);
        Check.due(y, "12 against 4 now", y.sameLines(0, 3), -1, 5);
    }

    /** All lines of all rows, against sums of points as doubles. */
    private static void everyRow() {
        for (int n = 2; n <= 12; n++) {
            ClosePacking x = null;
            for (int row = 0; row < 1 << n; row++) {
                StringBuilder steps = new StringBuilder();
                for (int k = n - 1; k >= 0; k--) {
                    steps.append((row >> k) % 2 == 1 ? 'u' : 'd');
                }
                x = Check.told(HEAD + "stack a " + steps);
                everyLine(x, n, row);
            }
        }
    }

    private static void everyLine(ClosePacking x, int n, int row) {
        int[] letters = new int[37];
        for (int k = 0; k < 36; k++) {
            letters[k + 1] = (letters[k] + ((row >> (n - 1 - k % n)) % 2 == 1 ? 1 : 2)) % 3;
        }
        int layers = letters[n] == 0 ? n : 3 * n;
        int many = 0;
        for (int l = 0; l < layers; l++) {
            double across = 0;
            double up = 0;
            for (int j = 0; j < layers; j++) {
                double turn = 2 * Math.PI * ((double) j * l / layers + letters[j] / 3.0);
                across += Math.cos(turn);
                up += Math.sin(turn);
            }
            boolean gone = Math.hypot(across, up) < 1e-9;
            many += gone ? 1 : 0;
            Check.due("line " + l + " of row " + row + " of " + n, x.out(0, l), gone ? 1 : 0);
        }
        Check.due("outs of row " + row + " of " + n, x.outs(0), many);
    }
}
