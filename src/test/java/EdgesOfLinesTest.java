import java.util.function.Supplier;

/** Boundary cases of promises 15 to 18: lines of stacks that repeat after 2 layers, and after 36. */
public final class EdgesOfLinesTest {
    public static void main(String[] args) {
        fewestLines();
        mostLines();
        oneLineLeft();
        refusedLines();
        firstLines();
        firstLineOfAllRows();
        linesNow();
        sameLines();
        sameLinesRefused();
        refusedWithoutStack();
        Check.end();
    }

    /** AB: two points that are neither alike nor opposite, by both lines. */
    private static void fewestLines() {
        ClosePacking x = Edge.fewest();
        Edge.taken("out(0, 0)", x, y -> y.out(0, 0), 0);
        Edge.taken("out(0, 1)", x, y -> y.out(0, 1), 0);
        Edge.taken("outs(0)", x, y -> y.outs(0), 0);
        Edge.taken("firstLine(0)", x, y -> y.firstLine(0), 1);
        Edge.refused("out(0, 2)", Edge::fewest, y -> y.out(0, 2), -1, 2);
    }

    /** Eleven up, one down: 12 LAYERS go one letter on, so that lines 2, 5, 8 .. 35 alone stay. */
    private static void mostLines() {
        ClosePacking x = Edge.most();
        int[] lines = {0, 1, 2, 3, 11, 12, 17, 24, 32, 33, 34, 35};
        for (int l : lines) {
            Edge.taken("out(0, " + l + ")", x, y -> y.out(0, l), l % 3 == 2 ? 0 : 1);
        }
        Edge.taken("outs(0)", x, y -> y.outs(0), 24);
        Edge.taken("firstLine(0)", x, y -> y.firstLine(0), 2);
        Edge.refused("out(0, 36)", Edge::most, y -> y.out(0, 36), -1, 2);
        ClosePacking down = Edge.stacks("dddddddddddu");
        for (int l = 0; l < 36; l++) {
            Check.due("out(0, " + l + ") of the twin", down.out(0, l), l % 3 == 1 ? 0 : 1);
        }
        Edge.taken("firstLine(0) of the twin", down, y -> y.firstLine(0), 1);
    }

    /** All up: line by which a step on takes back a third of a turn, two thirds of all; all down: one third. */
    private static void oneLineLeft() {
        for (int n = 2; n <= 12; n++) {
            ClosePacking x = Edge.stacks("uuuuuuuuuuuu".substring(12 - n), "dddddddddddd".substring(12 - n));
            int lines = n % 3 == 0 ? n : 3 * n;
            for (int s = 0; s < 2; s++) {
                int stack = s;
                int left = s == 0 ? lines / 3 * 2 : lines / 3;
                String of = s + " of " + n;
                Edge.taken("outs of " + of, x, y -> y.outs(stack), lines - 1);
                Edge.taken("firstLine of " + of, x, y -> y.firstLine(stack), left);
                Edge.taken("the one line of " + of, x, y -> y.out(stack, left), 0);
                Edge.taken("line 0 of " + of, x, y -> y.out(stack, 0), 1);
                Edge.taken("the last line of " + of, x, y -> y.out(stack, lines - 1), left == lines - 1 ? 0 : 1);
                Check.due("lines of " + of, x.out(stack, lines), -1);
                Check.due("trouble() of the line behind the last", x.trouble(), 2);
            }
        }
    }

    private static void refusedLines() {
        int[] wrong = {-1, 12, 36, Integer.MAX_VALUE, Integer.MIN_VALUE};
        for (int l : wrong) {
            Edge.refused("out(0, " + l + ") of 2", Edge::fewest, x -> x.out(0, l), -1, 2);
            Edge.refused("out(1, " + l + ") of 12", Edge::most, x -> x.out(1, l), -1, 2);
            Edge.refused("out(5, " + l + ")", Edge::most, x -> x.out(5, l), -1, 1);
        }
        Edge.taken("out(1, 11) of 12", Edge.most(), x -> x.out(1, 11), 1);
    }

    /** "The first LINE from 1 on that doesn't": line 0 isn't asked; the last line may be it. */
    private static void firstLines() {
        Edge.taken("line 0 stays, too", Edge.stacks("uudd"), x -> x.out(0, 0), 0);
        Edge.taken("line 1, though 0 stays", Edge.stacks("uudd"), x -> x.firstLine(0), 1);
        Edge.taken("the last line", Edge.stacks("uuu"), x -> x.firstLine(0), 2);
        Edge.taken("line 1 goes out, 0 stays", Edge.stacks("udud"), x -> x.firstLine(0), 2);
        Edge.taken("lines 1 to 5 go out, 0 stays", Edge.stacks("udududududud"), x -> x.firstLine(0), 6);
        Edge.taken("line 22 of 33", Edge.stacks("uuuuuuuuuuu"), x -> x.firstLine(0), 22);
    }

    /** "-2" would be of a stack of which all LAYERS are alike: there is none, for a STEP changes the letter. */
    private static void firstLineOfAllRows() {
        for (int n = 2; n <= 12; n++) {
            for (int row = 0; row < 1 << n; row++) {
                StringBuilder steps = new StringBuilder();
                for (int k = n - 1; k >= 0; k--) {
                    steps.append((row >> k & 1) == 1 ? 'u' : 'd');
                }
                ClosePacking x = Edge.stacks(steps.toString());
                int lines = x.stack(0, 2);
                int first = 1;
                int outs = x.out(0, 0);
                for (int l = lines - 1; l >= 1; l--) {
                    first = x.out(0, l) == 0 ? l : first;
                    outs += x.out(0, l);
                }
                Check.due(x, "firstLine of " + steps, x.firstLine(0), first, 0);
                Check.due(x, "a line stays of " + steps, x.out(0, first), 0, 0);
                Check.due("outs of " + steps, x.outs(0), outs);
            }
        }
    }

    /** As the stack is now, behind acts. */
    private static void linesNow() {
        ClosePacking x = Edge.stacks("uuu");
        x.cut(0);
        Edge.taken("outs of uu", x, y -> y.outs(0), 5);
        Edge.taken("out(0, 5) of uu", x, y -> y.out(0, 5), 1);
        x.slip(0, 1);
        Edge.taken("outs of ud", x, y -> y.outs(0), 0);
        Check.due(x, "no line 2 of ud", x.out(0, 2), -1, 2);
        x.undo();
        x.undo();
        Edge.taken("firstLine of uuu again", x, y -> y.firstLine(0), 2);
    }

    private static void dueSame(String one, String other, int due) {
        ClosePacking x = Edge.stacks(one, other);
        String what = "sameLines of " + one + " and " + other;
        Edge.taken(what, x, y -> y.sameLines(0, 1), due);
        Edge.taken(what + ", the other way about", x, y -> y.sameLines(1, 0), due);
        Edge.taken(what + ", one and itself", x, y -> y.sameLines(0, 0), 1);
        Edge.taken(what + ", the other one and itself", x, y -> y.sameLines(1, 1), 1);
    }

    /** "of two stacks (one and itself, too) that REPEAT after as many LAYERS", though not of as many STEPS. */
    private static void sameLines() {
        dueSame("ud", "du", 1);
        dueSame("ud", "ud", 1);
        dueSame("uu", "uuuuuu", 1);
        dueSame("dd", "uuuuuu", 0);
        dueSame("uuuu", "uuuuuuuuuuuu", 1);
        dueSame("dddd", "uuuuuuuuuuuu", 0);
        dueSame("uuuuuuuuuuud", "duuuuuuuuuuu", 1);
        dueSame("uuuuuuuuuuud", "uddddddddddd", 0);
        dueSame("uuu", "ddd", 0);
        // One of nine lines stays, line 6; and three, lines 2, 5, 8.
        dueSame("uuuuuuuuu", "uud", 0);
        // Unlike by line 0 alone.
        dueSame("uududd", "uuuddd", 0);
        dueSame("uuuuududd", "uuuuuuddd", 0);
        dueSame("uuuuuuuududd", "uuuuuuuuuddd", 0);
        ClosePacking x = Edge.most();
        for (int s = 0; s < 5; s++) {
            int stack = s;
            Edge.taken("one of five and itself", x, y -> y.sameLines(stack, stack), 1);
        }
        Edge.taken("all up and all down", x, y -> y.sameLines(1, 2), 0);
    }

    private static void sameLinesRefused() {
        Supplier<ClosePacking> scene = () -> Edge.stacks("ud", "uu", "uuu", "uuuuuuuuuuud", "uuuuuuuuuuuu");
        for (int s = 0; s < 5; s++) {
            for (int t = 0; t < 5; t++) {
                int one = s;
                int other = t;
                if (s != t) {
                    Edge.refused("not as many: " + s + ", " + t, scene, x -> x.sameLines(one, other), -1, 5);
                }
            }
        }
        Edge.refused("36 and 12 of most", Edge::most, x -> x.sameLines(0, 1), -1, 5);
        int[] wrong = {-1, 5, Integer.MAX_VALUE, Integer.MIN_VALUE};
        for (int s : wrong) {
            Edge.refused("sameLines(" + s + ", 0)", Edge::most, x -> x.sameLines(s, 0), -1, 1);
            Edge.refused("sameLines(0, " + s + ")", Edge::most, x -> x.sameLines(0, s), -1, 1);
            Edge.refused("sameLines of none", Edge::most, x -> x.sameLines(s, s), -1, 1);
        }
    }

    private static void refusedWithoutStack() {
        int[] wrong = {-1, 5, Integer.MAX_VALUE, Integer.MIN_VALUE};
        for (int s : wrong) {
            Edge.refused("out(" + s + ", 0)", Edge::most, x -> x.out(s, 0), -1, 1);
            Edge.refused("outs(" + s + ")", Edge::most, x -> x.outs(s), -1, 1);
            Edge.refused("firstLine(" + s + ")", Edge::most, x -> x.firstLine(s), -1, 1);
        }
        Edge.refused("out(1, 0) of one", Edge::fewest, x -> x.out(1, 0), -1, 1);
        Edge.refused("outs(1) of one", Edge::fewest, x -> x.outs(1), -1, 1);
        Edge.refused("firstLine(1) of one", Edge::fewest, x -> x.firstLine(1), -1, 1);
        Edge.refused("sameLines(0, 1) of one", Edge::fewest, x -> x.sameLines(0, 1), -1, 1);
        Edge.refused("out(0, 0) without a lab", Edge::none, x -> x.out(0, 0), -1, 1);
        Edge.refused("outs(0) without a lab", Edge::none, x -> x.outs(0), -1, 1);
        Edge.refused("firstLine(0) without a lab", Edge::none, x -> x.firstLine(0), -1, 1);
        Edge.refused("sameLines(0, 0) without a lab", Edge::none, x -> x.sameLines(0, 0), -1, 1);
    }
}
