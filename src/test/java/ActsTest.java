/** Promises 49 to 56: acts, undoing, images. */
public final class ActsTest {
    private static final String TEXT = "lab near 1 second 0 third 0 growth 50;stack a uud;stack b ud;stack c uuuuuuuuuuud";

    public static void main(String[] args) {
        slips();
        turns();
        twins();
        growing();
        cutting();
        undoing();
        undoingKeepsSixteen();
        undoingAllSorts();
        images();
        imagesAndUndoing();
        refusals();
        Check.end();
    }

    private static void slips() {
        ClosePacking x = Check.told(TEXT);
        Check.due(x, "slip(0, 0)", x.slip(0, 0), 2, 0);
        Check.due(x, "slip(0, 2)", x.slip(0, 2), 3, 0);
        Check.due(x, "slip(0, 0) again", x.slip(0, 0), 7, 0);
        Check.due(x, "slip(2, 11)", x.slip(2, 11), 4095, 0);
        Check.due(x, "slip(2, 0)", x.slip(2, 0), 2047, 0);
        Check.due(x, "slip(0, 3)", x.slip(0, 3), -1, 2);
        Check.due(x, "slip(0, -1)", x.slip(0, -1), -1, 2);
        Check.due("its row", x.stack(0, 1), 7);
        Check.due("the other row", x.stack(1, 1), 2);
        Check.due("acts", x.size(7), 5);
    }

    private static void turns() {
        ClosePacking x = Check.told(TEXT);
        int[] rows = {5, 3, 6, 5};
        for (int row : rows) {
            Check.due(x, "turn(0)", x.turn(0), row, 0);
        }
        Check.due(x, "turn(1)", x.turn(1), 1, 0);
        Check.due(x, "turn(2)", x.turn(2), 4093, 0);
        Check.due("acts", x.size(7), 6);
        Check.due("its row", x.stack(2, 1), 4093);
        Check.due("its steps", x.stack(2, 0), 12);
    }

    private static void twins() {
        ClosePacking x = Check.told(TEXT);
        Check.due(x, "twin(0)", x.twin(0), 1, 0);
        Check.due(x, "twin(1)", x.twin(1), 1, 0);
        Check.due(x, "twin(2)", x.twin(2), 1, 0);
        Check.due(x, "twin(0) again", x.twin(0), 6, 0);
        Check.due("acts", x.size(7), 4);
        Check.due("its row", x.stack(2, 1), 1);
    }

    private static void growing() {
        ClosePacking x = Check.told(TEXT);
        for (int n = 4; n <= 12; n++) {
            Check.due(x, "grow(0)", x.grow(0, n % 2 == 0), n, 0);
        }
        Check.due("its row", x.stack(0, 1), 0b110101010101);
        Check.due(x, "grow(0) of twelve", x.grow(0, true), -1, 3);
        Check.due(x, "grow(2) of twelve", x.grow(2, false), -1, 3);
        Check.due("its row stays", x.stack(0, 1), 0b110101010101);
        Check.due("its steps", x.stack(0, 0), 12);
        Check.due("acts", x.size(7), 9);
    }

    private static void cutting() {
        ClosePacking x = Check.told(TEXT);
        for (int n = 11; n >= 2; n--) {
            Check.due(x, "cut(2)", x.cut(2), n, 0);
            Check.due("its row", x.stack(2, 1), (1 << n) - 1);
        }
        Check.due(x, "cut(2) of two", x.cut(2), -1, 5);
        Check.due(x, "cut(1) of two", x.cut(1), -1, 5);
        Check.due("its row stays", x.stack(1, 1), 2);
        Check.due("acts", x.size(7), 10);
    }

    private static void undoing() {
        ClosePacking x = Check.told(TEXT);
        Check.due(x, "undo() at first", x.undo(), false, 6);
        x.grow(0, true);
        x.slip(1, 0);
        x.cut(2);
        x.turn(0);
        x.twin(0);
        int[][] due = {{0, 11}, {0, 13}, {2, 4094}, {1, 2}, {0, 6}};
        for (int i = 0; i < due.length; i++) {
            Check.due("acts", x.size(7), 5 - i);
            Check.due(x, "undo() " + i, x.undo(), true, 0);
            Check.due("row behind undo " + i, x.stack(due[i][0], 1), due[i][1]);
        }
        Check.due("steps grown away", x.stack(0, 0), 3);
        Check.due("steps cut come back", x.stack(2, 0), 12);
        Check.due(x, "undo() at last", x.undo(), false, 6);
        x.slip(0, 9);
        x.cut(1);
        x.grow(2, true);
        Check.due("what was refused is no act", x.size(7), 0);
        Check.due(x, "nothing to undo", x.undo(), false, 6);
    }

    private static void undoingKeepsSixteen() {
        ClosePacking x = Check.told(TEXT);
        for (int i = 1; i <= 20; i++) {
            x.slip(i % 2, 0);
            if (i % 5 == 0) {
                x.turn(2);
            }
            Check.due("acts", x.size(7), Math.min(16, i + i / 5));
        }
        for (int i = 0; i < 16; i++) {
            Check.due(x, "undo() " + i, x.undo(), true, 0);
        }
        Check.due(x, "undo() of the 17th", x.undo(), false, 6);
        Check.due("acts at last", x.size(7), 0);
        // 24 acts, of which the first 8 stay done: slips 1 to 5 and a turn, slips 6 and 7.
        Check.due("a", x.stack(0, 1), 2);
        Check.due("b", x.stack(1, 1), 2);
        Check.due("c", x.stack(2, 1), 4093);
    }

    /** Acts of all sorts on all stacks, each with its row and steps ahead of it; the latest 16 come back. */
    private static void undoingAllSorts() {
        ClosePacking x = Check.told(TEXT);
        int acts = 41;
        int[][] ahead = new int[acts][];
        for (int i = 0; i < acts; i++) {
            int s = i * i % 3 == 1 ? i % 2 : 2 - i % 3;
            ahead[i] = new int[] {s, x.stack(s, 0), x.stack(s, 1)};
            if (i % 4 == 0) {
                x.turn(s);
            } else if (x.stack(s, 0) == 12 || i % 3 == 1 && x.stack(s, 0) > 2) {
                x.cut(s);
            } else if (i % 5 == 0) {
                x.slip(s, 1);
            } else {
                x.grow(s, i % 2 == 0);
            }
            Check.due("acts that can be undone", x.size(7), Math.min(16, i + 1));
        }
        for (int i = acts - 1; i >= acts - 16; i--) {
            x.energy(-1);
            Check.due(x, "undo() of act " + i, x.undo(), true, 0);
            Check.due("steps ahead of act " + i, x.stack(ahead[i][0], 0), ahead[i][1]);
            Check.due("row ahead of act " + i, x.stack(ahead[i][0], 1), ahead[i][2]);
        }
        Check.due(x, "undo() of the 17th", x.undo(), false, 6);
    }

    private static void images() {
        ClosePacking x = Check.told(TEXT);
        Check.due(x, "image() 0", x.image(), 0, 0);
        x.grow(0, false);
        x.slip(1, 1);
        Check.due(x, "image() 1", x.image(), 1, 0);
        x.cut(2);
        x.twin(1);
        Check.due(x, "image() 2", x.image(), 2, 0);
        Check.due(x, "image() 3", x.image(), -1, 3);
        Check.due("images", x.size(8), 3);
        x.turn(2);
        int[][] steps = {{3, 2, 12}, {4, 2, 12}, {4, 2, 11}};
        int[][] rows = {{6, 2, 4094}, {12, 3, 4094}, {12, 0, 2047}};
        int[] order = {1, 0, 2, 0, 1};
        for (int image : order) {
            x.energy(-1);
            Check.due(x, "back(" + image + ")", x.back(image), true, 0);
            for (int s = 0; s < 3; s++) {
                Check.due("steps of " + s + " by image " + image, x.stack(s, 0), steps[image][s]);
                Check.due("row of " + s + " by image " + image, x.stack(s, 1), rows[image][s]);
            }
            Check.due("all images stay", x.size(8), 3);
            x.twin(0);
        }
        int[] wrong = {-1, 3, Integer.MAX_VALUE, Integer.MIN_VALUE};
        for (int image : wrong) {
            Check.due(x, "back(" + image + ")", x.back(image), false, 1);
        }
        Check.due("what was refused changes nothing", x.size(7), 1);
    }

    private static void imagesAndUndoing() {
        ClosePacking x = Check.told(TEXT);
        x.slip(0, 0);
        x.image();
        Check.due("an image keeps the acts", x.size(7), 1);
        x.slip(0, 1);
        x.feed(1, 2, 3, 4, 5);
        Check.due(x, "back(0)", x.back(0), true, 0);
        Check.due("acts behind back", x.size(7), 0);
        Check.due(x, "undo() behind back", x.undo(), false, 6);
        Check.due("the tape stays", x.size(9), 20);
        Check.due("the row", x.stack(0, 1), 2);
        x.twin(0);
        Check.due(x, "undo()", x.undo(), true, 0);
        Check.due("the row again", x.stack(0, 1), 2);
        Check.due(x, "back(1)", x.back(1), false, 1);
    }

    private static void refusals() {
        ClosePacking x = Check.told(TEXT);
        int[] none = {-1, 3, Integer.MAX_VALUE, Integer.MIN_VALUE};
        for (int s : none) {
            Check.due(x, "slip(s, 0)", x.slip(s, 0), -1, 1);
            Check.due(x, "slip(s, 99)", x.slip(s, 99), -1, 1);
            Check.due(x, "turn(s)", x.turn(s), -1, 1);
            Check.due(x, "twin(s)", x.twin(s), -1, 1);
            Check.due(x, "grow(s, true)", x.grow(s, true), -1, 1);
            Check.due(x, "cut(s)", x.cut(s), -1, 1);
        }
        ClosePacking y = new ClosePacking();
        Check.due(y, "slip without a lab", y.slip(0, 0), -1, 1);
        Check.due(y, "turn without a lab", y.turn(0), -1, 1);
        Check.due(y, "twin without a lab", y.twin(0), -1, 1);
        Check.due(y, "grow without a lab", y.grow(0, false), -1, 1);
        Check.due(y, "cut without a lab", y.cut(0), -1, 1);
        Check.due(y, "undo without a lab", y.undo(), false, 6);
        Check.due(y, "image without a lab", y.image(), -1, 1);
        Check.due(y, "back without a lab", y.back(0), false, 1);
    }
}
