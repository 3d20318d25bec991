import java.util.ArrayList;
import java.util.List;
import java.util.function.Supplier;

/** Boundary cases of promises 49 to 56: acts on stacks of 2 and of 12 steps, undoing none to sixteen, images. */
public final class EdgesOfActsTest {
    private static final int[] WRONG_OF_FIVE = {-1, 5, Integer.MAX_VALUE, Integer.MIN_VALUE};

    public static void main(String[] args) {
        slips();
        slipsRefused();
        turns();
        twins();
        grows();
        growsRefused();
        cuts();
        cutsRefused();
        oneStackAlone();
        undoNone();
        undoOne();
        undoEachAct();
        sixteenAreKept();
        sixteenOfOtherLengths();
        undoAndAct();
        images();
        imagesRefused();
        backs();
        backsRefused();
        backAndUndo();
        backAndTape();
        labEndsImages();
        withoutStack();
        Check.end();
    }

    /** The row and how many steps, and the act counted. */
    private static void dueNow(String what, ClosePacking x, int s, int steps, int row, int acts) {
        Check.due("steps, " + what, x.stack(s, 0), steps);
        Check.due("row, " + what, x.stack(s, 1), row);
        Check.due("acts, " + what, x.size(7), acts);
    }

    /** STEP 0 is the highest bit, the last one the lowest. */
    private static void slips() {
        ClosePacking x = Edge.stacks("ud", "uuuuuuuuuuud");
        Edge.taken("slip(0, 0)", x, y -> y.slip(0, 0), 0);
        dueNow("slip(0, 0)", x, 0, 2, 0, 1);
        Edge.taken("slip(0, 1)", x, y -> y.slip(0, 1), 1);
        dueNow("slip(0, 1)", x, 0, 2, 1, 2);
        Edge.taken("slip(0, 1) again", x, y -> y.slip(0, 1), 0);
        Edge.taken("slip(1, 0)", x, y -> y.slip(1, 0), 2046);
        Edge.taken("slip(1, 11)", x, y -> y.slip(1, 11), 2047);
        dueNow("slip(1, 11)", x, 1, 12, 2047, 5);
    }

    private static void slipsRefused() {
        int[] wrong = {-1, 2, 12, Integer.MAX_VALUE, Integer.MIN_VALUE};
        for (int k : wrong) {
            Edge.refused("slip(0, " + k + ") of two", Edge::fewest, x -> x.slip(0, k), -1, 2);
            Edge.refused("slip(5, " + k + ")", Edge::most, x -> x.slip(5, k), -1, 1);
            if (k != 2) {
                Edge.refused("slip(0, " + k + ") of twelve", Edge::most, x -> x.slip(0, k), -1, 2);
            }
        }
        Supplier<ClosePacking> cut = () -> {
            ClosePacking x = Edge.stacks("uuuuuuuuuuuu");
            x.cut(0);
            return x;
        };
        Edge.refused("slip of the step cut away", cut, x -> x.slip(0, 11), -1, 2);
        Edge.taken("slip of the last one now", cut.get(), x -> x.slip(0, 10), 2046);
    }

    /** "begun at the next STEP": the first one goes behind the last; all alike is as it was, and an act. */
    private static void turns() {
        ClosePacking x = Edge.stacks("ud", "uu", "duuuuuuuuuuu", "uuuuuuuuuuuu");
        Edge.taken("turn of ud", x, y -> y.turn(0), 1);
        Edge.taken("turn of du", x, y -> y.turn(0), 2);
        dueNow("turned twice", x, 0, 2, 2, 2);
        Edge.taken("turn of uu", x, y -> y.turn(1), 3);
        dueNow("turned, as it was", x, 1, 2, 3, 3);
        for (int k = 0; k < 12; k++) {
            Edge.taken("turn " + k + " of duuuuuuuuuuu", x, y -> y.turn(2), 4095 - (1 << k));
        }
        dueNow("all around", x, 2, 12, 2047, 15);
        Edge.taken("turn of twelve alike", x, y -> y.turn(3), 4095);
        dueNow("twelve alike", x, 3, 12, 4095, 16);
    }

    private static void twins() {
        ClosePacking x = Edge.stacks("ud", "uu", "uuuuuuuuuuuu", "udduuuddddud");
        Edge.taken("twin of ud", x, y -> y.twin(0), 1);
        Edge.taken("twin of uu", x, y -> y.twin(1), 0);
        Edge.taken("twin of dd", x, y -> y.twin(1), 3);
        Edge.taken("twin of all up", x, y -> y.twin(2), 0);
        Edge.taken("twin of all down", x, y -> y.twin(2), 4095);
        Edge.taken("twin of twelve", x, y -> y.twin(3), 0b011000111101);
        dueNow("twin of twelve", x, 3, 12, 0b011000111101, 6);
    }

    /** "a STEP more behind the last; up to 12": how many STEPS it has then. */
    private static void grows() {
        ClosePacking x = Edge.stacks("ud", "ud");
        int up = 2;
        int down = 2;
        for (int n = 3; n <= 12; n++) {
            int steps = n;
            up = up * 2 + 1;
            down *= 2;
            Edge.taken("grow to " + n, x, y -> y.grow(0, true), steps);
            Check.due("row grown up", x.stack(0, 1), up);
            Edge.taken("grow down to " + n, x, y -> y.grow(1, false), steps);
            dueNow("grown down", x, 1, n, down, Math.min(16, 2 * n - 4));
        }
    }

    private static void growsRefused() {
        for (int s = 0; s < 5; s++) {
            int stack = s;
            Edge.refused("grow of twelve", Edge::most, x -> x.grow(stack, true), -1, 3);
            Edge.refused("grow of twelve, down", Edge::most, x -> x.grow(stack, false), -1, 3);
        }
        Supplier<ClosePacking> eleven = () -> {
            ClosePacking x = Edge.stacks("uuuuuuuuuuu");
            x.grow(0, true);
            return x;
        };
        Edge.refused("grow of twelve, grown", eleven, x -> x.grow(0, true), -1, 3);
        ClosePacking x = eleven.get();
        x.grow(0, true);
        x.cut(0);
        Edge.taken("grow of eleven again", x, y -> y.grow(0, false), 12);
        dueNow("grown again", x, 0, 12, 4094, 3);
    }

    /** "the last one away; 2 at least" */
    private static void cuts() {
        ClosePacking x = Edge.stacks("uuuuuuuuuuuu", "dudududududu");
        int row = 0b010101010101;
        for (int n = 11; n >= 2; n--) {
            int steps = n;
            row >>= 1;
            Edge.taken("cut to " + n, x, y -> y.cut(0), steps);
            Check.due("row cut", x.stack(0, 1), (1 << n) - 1);
            Edge.taken("cut by turns to " + n, x, y -> y.cut(1), steps);
            dueNow("cut by turns", x, 1, n, row, Math.min(16, 2 * (12 - n)));
        }
    }

    private static void cutsRefused() {
        Edge.refused("cut of two", Edge::fewest, x -> x.cut(0), -1, 5);
        Supplier<ClosePacking> three = () -> {
            ClosePacking x = Edge.stacks("uud", "du");
            x.cut(0);
            return x;
        };
        Edge.refused("cut of two, cut", three, x -> x.cut(0), -1, 5);
        Edge.refused("cut of two, as told", three, x -> x.cut(1), -1, 5);
        ClosePacking x = three.get();
        x.cut(0);
        x.grow(0, false);
        Edge.taken("cut of three again", x, y -> y.cut(0), 2);
        dueNow("cut again", x, 0, 2, 3, 3);
    }

    /** Each act is of its stack alone, the first and the last of five. */
    private static void oneStackAlone() {
        for (int s = 0; s < 5; s++) {
            ClosePacking x = Edge.stacks("uud", "uud", "uud", "uud", "uud");
            x.slip(s, 2);
            x.turn(s);
            x.grow(s, false);
            x.twin(s);
            x.cut(s);
            x.slip(s, 0);
            for (int t = 0; t < 5; t++) {
                dueNow("acts on " + s + " alone", x, t, 3, t == s ? 4 : 6, 6);
            }
        }
    }

    /** "false: 6": no lab, no act yet, and each act undone. */
    private static void undoNone() {
        Edge.refused("undo() without a lab", Edge::none, x -> x.undo() ? 1 : 0, 0, 6);
        Edge.refused("undo() without an act", Edge::fewest, x -> x.undo() ? 1 : 0, 0, 6);
        Supplier<ClosePacking> refusedActs = () -> {
            ClosePacking x = Edge.stacks("ud", "uuuuuuuuuuuu");
            x.slip(0, 2);
            x.slip(2, 0);
            x.turn(2);
            x.twin(-1);
            x.grow(1, true);
            x.cut(0);
            x.image();
            return x;
        };
        Edge.refused("undo() behind refused acts", refusedActs, x -> x.undo() ? 1 : 0, 0, 6);
        Supplier<ClosePacking> undone = () -> {
            ClosePacking x = Edge.stacks("ud");
            x.turn(0);
            x.undo();
            return x;
        };
        Edge.refused("undo() behind an undo()", undone, x -> x.undo() ? 1 : 0, 0, 6);
    }

    private static void undoOne() {
        ClosePacking x = Edge.fewest();
        x.turn(0);
        Check.due("one act", x.size(7), 1);
        Edge.taken("undo() of one", x, y -> y.undo() ? 1 : 0, 1);
        dueNow("one undone", x, 0, 2, 2, 0);
        Edge.taken("undo() is no act", x, y -> y.turn(0), 1);
        dueNow("an act behind undo()", x, 0, 2, 1, 1);
    }

    /** Each sort of act at its least and most; what was cut away comes back as it was. */
    private static void undoEachAct() {
        String[] rows = {"uu", "du", "ddu", "uuu", "uuuuuuuuuuuu", "dududududuud", "uuuuuuuuuuu"};
        for (String told : rows) {
            for (int sort = 0; sort < 7; sort++) {
                int act = sort;
                ClosePacking x = Edge.stacks("ud", told);
                int n = x.stack(1, 0);
                int row = x.stack(1, 1);
                Edge.Call[] acts = {y -> y.slip(1, 0), y -> y.slip(1, n - 1), y -> y.turn(1), y -> y.twin(1),
                    y -> y.grow(1, true), y -> y.grow(1, false), y -> y.cut(1)};
                boolean taken = acts[act].on(x) >= 0;
                Check.due("taken", taken, !(n == 12 && (act == 4 || act == 5)) && !(n == 2 && act == 6));
                Check.due("acts of " + told, x.size(7), taken ? 1 : 0);
                Check.due(x, "undo() of act " + act + " of " + told, x.undo(), taken, taken ? 0 : 6);
                dueNow("undone act " + act + " of " + told, x, 1, n, row, 0);
                dueNow("the other stack", x, 0, 2, 2, 0);
            }
        }
    }

    /** "the latest (16 are kept)": of 15, 16, 17 and 40 acts; the first ones stay done. */
    private static void sixteenAreKept() {
        int[] many = {1, 15, 16, 17, 18, 40};
        for (int acts : many) {
            ClosePacking x = Edge.stacks("duuuuuuuuuuu", "ud");
            for (int i = 1; i <= acts; i++) {
                x.turn(0);
                Check.due("acts kept of " + i, x.size(7), Math.min(16, i));
            }
            int kept = Math.min(16, acts);
            for (int i = 1; i <= kept; i++) {
                Edge.taken("undo() " + i + " of " + acts, x, y -> y.undo() ? 1 : 0, 1);
                int turned = (acts - i + 11) % 12;
                dueNow("undone " + i + " of " + acts, x, 0, 12, 4095 - (1 << turned), kept - i);
            }
            Check.due(x, "undo() of one more of " + acts, x.undo(), false, 6);
            int left = (acts - kept + 11) % 12;
            dueNow("the first ones stay done", x, 0, 12, 4095 - (1 << left), 0);
        }
    }

    /** Of acts by which stacks are longer and shorter, on all five in turn. */
    private static void sixteenOfOtherLengths() {
        for (int acts = 15; acts <= 34; acts++) {
            ClosePacking x = Edge.stacks("ud", "uud", "uuuuuuuuuuuu", "dddddddddddd", "uddudd");
            List<String> ahead = new ArrayList<>();
            for (int i = 0; i < acts; i++) {
                ahead.add(Edge.rows(x));
                int s = i % 5;
                if (s < 2 || s == 4 && i % 2 == 0) {
                    x.grow(s, i % 3 == 0);
                } else {
                    x.cut(s);
                }
            }
            for (int i = acts - 1; i >= Math.max(0, acts - 16); i--) {
                Check.due(x, "undo() of act " + i + " of " + acts, x.undo(), true, 0);
                Check.same("rows ahead of act " + i + " of " + acts, Edge.rows(x), ahead.get(i));
            }
            Check.due(x, "undo() of one more of " + acts, x.undo(), false, 6);
        }
    }

    /** Undone and acted anew, with the sixteen full. */
    private static void undoAndAct() {
        ClosePacking x = Edge.stacks("uuuuuu", "ud");
        for (int i = 0; i < 16; i++) {
            x.slip(1, i % 2);
        }
        x.slip(0, 0);
        x.undo();
        Check.due("fifteen are left", x.size(7), 15);
        x.slip(0, 1);
        x.slip(0, 2);
        Check.due("sixteen again", x.size(7), 16);
        for (int i = 0; i < 16; i++) {
            Check.due(x, "undo() " + i, x.undo(), true, 0);
            Check.due("its row", x.stack(0, 1), i == 0 ? 0b101111 : 63);
        }
        // Slips 1 and 2 of the second stack were pushed out.
        Check.due("the second row", x.stack(1, 1), 1);
        Check.due(x, "undo() of one more", x.undo(), false, 6);
    }

    /** "up to 3": 0, 1, 2; an image changes nothing, and is no act. */
    private static void images() {
        ClosePacking x = Edge.fewest();
        for (int i = 0; i < 3; i++) {
            int image = i;
            Check.due("images ahead", x.size(8), i);
            Edge.taken("image() " + i, x, ClosePacking::image, image);
            Check.due("images", x.size(8), i + 1);
            Check.due("no act", x.size(7), 0);
        }
        Check.due(x, "image() 3", x.image(), -1, 3);
        ClosePacking y = Edge.fewest();
        y.slip(0, 0);
        y.image();
        Check.due("the acts stay", y.size(7), 1);
        Check.due(y, "undo() behind an image", y.undo(), true, 0);
        dueNow("undone", y, 0, 2, 2, 0);
        Check.due("the image stays", y.size(8), 1);
        Check.due(y, "back(0)", y.back(0), true, 0);
        dueNow("as by the image", y, 0, 2, 0, 0);
    }

    private static void imagesRefused() {
        Edge.refused("image() without a lab", Edge::none, ClosePacking::image, -1, 1);
        Edge.refused("image() of three", Edge::most, ClosePacking::image, -1, 3);
        Supplier<ClosePacking> gone = () -> {
            ClosePacking x = Edge.most();
            x.back(0);
            return x;
        };
        Edge.refused("image() of three, gone back", gone, ClosePacking::image, -1, 3);
    }

    /** "All but THE TAPE is as by an IMAGE (all IMAGES stay)": forth and back, of other lengths, again and again. */
    private static void backs() {
        int[][] steps = {{12, 12, 12}, {12, 11, 12}, {12, 12, 12}};
        int[][] rows = {{1, 4095, 0}, {4094, 2047, 2048}, {4094, 0, 0}};
        int[] order = {0, 1, 2, 2, 0, 2, 1, 0};
        ClosePacking x = Edge.most();
        for (int image : order) {
            Edge.taken("back(" + image + ")", x, y -> y.back(image) ? 1 : 0, 1);
            Check.due("all images stay", x.size(8), 3);
            for (int s = 0; s < 3; s++) {
                dueNow("by image " + image, x, s, steps[image][s], rows[image][s], 0);
            }
            dueNow("by image " + image, x, 3, 12, 0xaaa, 0);
            dueNow("by image " + image, x, 4, 12, 0xccc, 0);
            x.cut(0);
            x.twin(3);
            x.slip(4, 0);
        }
        ClosePacking few = Edge.fewest();
        few.image();
        for (int i = 0; i < 10; i++) {
            few.grow(0, true);
        }
        Edge.taken("back(0) of fewest", few, y -> y.back(0) ? 1 : 0, 1);
        dueNow("fewest again", few, 0, 2, 2, 0);
    }

    private static void backsRefused() {
        int[] wrong = {-1, 3, Integer.MAX_VALUE, Integer.MIN_VALUE};
        for (int image : wrong) {
            Edge.refused("back(" + image + ") of three", Edge::most, x -> x.back(image) ? 1 : 0, 0, 1);
            Edge.refused("back(" + image + ") of none", Edge::fewest, x -> x.back(image) ? 1 : 0, 0, 1);
            Edge.refused("back(" + image + ") without a lab", Edge::none, x -> x.back(image) ? 1 : 0, 0, 1);
        }
        Edge.refused("back(0) of none", Edge::fewest, x -> x.back(0) ? 1 : 0, 0, 1);
        Edge.refused("back(0) without a lab", Edge::none, x -> x.back(0) ? 1 : 0, 0, 1);
        for (int many = 1; many <= 2; many++) {
            int images = many;
            Supplier<ClosePacking> some = () -> {
                ClosePacking x = Edge.fewest();
                for (int i = 0; i < images; i++) {
                    x.image();
                    x.turn(0);
                }
                return x;
            };
            Edge.refused("back(" + many + ") of as many", some, x -> x.back(images) ? 1 : 0, 0, 1);
            Edge.taken("back to the last", some.get(), x -> x.back(images - 1) ? 1 : 0, 1);
        }
    }

    /** "gone back to one, nothing can be undone", whatever had been done ahead of it and behind it. */
    private static void backAndUndo() {
        ClosePacking x = Edge.fewest();
        x.turn(0);
        x.image();
        x.turn(0);
        Check.due("two acts", x.size(7), 2);
        x.back(0);
        Check.due("no act", x.size(7), 0);
        Check.due(x, "undo() behind back(0)", x.undo(), false, 6);
        dueNow("as by the image", x, 0, 2, 1, 0);
        for (int i = 0; i < 17; i++) {
            x.turn(0);
        }
        Check.due("sixteen acts behind it", x.size(7), 16);
        for (int i = 0; i < 16; i++) {
            Check.due(x, "undo() of these", x.undo(), true, 0);
        }
        Check.due(x, "undo() of one more", x.undo(), false, 6);
        dueNow("the first stays done", x, 0, 2, 2, 0);
        ClosePacking y = Edge.fewest();
        y.image();
        y.back(0);
        Check.due("back at once", y.size(7), 0);
        Check.due(y, "undo() then", y.undo(), false, 6);
    }

    /** "All but THE TAPE": empty, fed, and full. */
    private static void backAndTape() {
        ClosePacking x = Edge.most();
        x.back(1);
        Check.due("a full tape stays", x.size(9), 500);
        Check.due(x, "lab of it", x.lab(500), 2, 0);
        ClosePacking y = Edge.fewest();
        y.image();
        Check.feed(y, Edge.HEAD + "stack q uuuu");
        int fed = y.size(9);
        y.back(0);
        Check.due("what was fed stays", y.size(9), fed);
        Check.due(y, "lab of it", y.lab(fed), 1, 0);
        Check.due("its row", y.stack(0, 1), 15);
        ClosePacking z = Edge.fewest();
        z.feed(0, 0, 0, 0, 0);
        z.image();
        z.lab(0);
        z.back(0);
        Check.due("what was read doesn't come back", z.size(9), 0);
    }

    /** By another lab, not by one that is refused. */
    private static void labEndsImages() {
        ClosePacking x = Edge.most();
        x.lab(-1);
        Check.due("images behind one refused by a number", x.size(8), 3);
        x.lab(0);
        Check.due("images behind one refused by a fault", x.size(8), 3);
        Check.due(x, "back(2)", x.back(2), true, 0);
        Check.tell(x, Edge.FEWEST);
        Check.due("images of another lab", x.size(8), 0);
        for (int i = 0; i < 3; i++) {
            Check.due(x, "back(" + i + ")", x.back(i), false, 1);
        }
        for (int i = 0; i < 3; i++) {
            Check.due(x, "image() anew", x.image(), i, 0);
        }
        Check.due(x, "image() of three", x.image(), -1, 3);
    }

    private static void withoutStack() {
        for (int s : WRONG_OF_FIVE) {
            refusedOf(Edge::most, "five, of " + s, s);
        }
        refusedOf(Edge::fewest, "one, of 1", 1);
        refusedOf(Edge::fewest, "one, of -1", -1);
        refusedOf(Edge::none, "none", 0);
    }

    private static void refusedOf(Supplier<ClosePacking> scene, String of, int s) {
        Edge.refused("slip, " + of, scene, x -> x.slip(s, 0), -1, 1);
        Edge.refused("turn, " + of, scene, x -> x.turn(s), -1, 1);
        Edge.refused("twin, " + of, scene, x -> x.twin(s), -1, 1);
        Edge.refused("grow, " + of, scene, x -> x.grow(s, true), -1, 1);
        Edge.refused("grow down, " + of, scene, x -> x.grow(s, false), -1, 1);
        Edge.refused("cut, " + of, scene, x -> x.cut(s), -1, 1);
    }
}
