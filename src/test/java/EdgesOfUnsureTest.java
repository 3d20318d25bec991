import java.util.function.Supplier;

/** Boundary cases of promises 37 to 43: none, one and four unsure steps; none, one and sixteen sets that fit. */
public final class EdgesOfUnsureTest {
    /** Of ud both layers agree by two; of dd and uu none. */
    private static final String FOUR = Edge.HEAD + "stack a ud;stack b ud;stack c ud;stack e ud"
            + ";unsure a 0;unsure b 0;unsure c 0;unsure e 0";

    public static void main(String[] args) {
        noneUnsure();
        oneUnsure();
        fourUnsureAllFit();
        oneOfSixteenFits();
        noneOfSixteenFits();
        mostUnsureAndAgreed();
        placesAndOrder();
        theFirstSuchAsked();
        judge();
        asTold();
        newLab();
        withoutLab();
        Check.end();
    }

    private static void due(String text, int[] sets, int could, int surely, int ask, int leaves, int judge) {
        dueOf(() -> Check.told(text), text, sets, could, surely, ask, leaves, judge);
    }

    private static void dueOf(Supplier<ClosePacking> scene, String text, int[] sets, int could, int surely, int ask,
            int leaves, int judge) {
        ClosePacking x = scene.get();
        Edge.taken("fits() of " + text, x, ClosePacking::fits, sets.length);
        for (int i = 0; i < sets.length; i++) {
            int asked = i;
            Edge.taken("fitAt(" + i + ") of " + text, x, y -> y.fitAt(asked), sets[i]);
        }
        int[] wrong = {sets.length, -1, 16, 32, Integer.MAX_VALUE, Integer.MIN_VALUE};
        for (int i : wrong) {
            Edge.refused("fitAt(" + i + ") of " + text, scene, y -> y.fitAt(i), -1, 1);
        }
        Edge.taken("could() of " + text, x, ClosePacking::could, could);
        Edge.taken("surely() of " + text, x, ClosePacking::surely, surely);
        Edge.taken("ask() of " + text, x, ClosePacking::ask, ask);
        Edge.taken("askLeaves() of " + text, x, ClosePacking::askLeaves, leaves);
        Edge.taken("judge() of " + text, x, ClosePacking::judge, judge);
    }

    private static int[] all(int sets) {
        int[] result = new int[sets];
        for (int i = 0; i < sets; i++) {
            result[i] = i;
        }
        return result;
    }

    /** "-2 ... no unsure STEP": the one set that is empty, or no FITS. */
    private static void noneUnsure() {
        due(Edge.FEWEST, all(1), 0, 0, -2, -2, -2);
        due(Edge.FEWEST + ";agreed a 2 2", all(1), 0, 0, -2, -2, -2);
        due(Edge.FEWEST + ";agreed a 36 2;agreed a 1 0", all(1), 0, 0, -2, -2, -2);
        due(Edge.FEWEST + ";agreed a 2 1", all(0), 0, 0, -2, -2, 0);
        due(Edge.FEWEST + ";agreed a 2 3", all(0), 0, 0, -2, -2, 0);
        due(Edge.HEAD + "stack a uuuuuuuuuuud;agreed a 36 36", all(1), 0, 0, -2, -2, -2);
        due(Edge.HEAD + "stack a uuuuuuuuuuud;agreed a 36 35", all(0), 0, 0, -2, -2, 0);
        due(Edge.HEAD + "stack a uuuuuuuuuuud;agreed a 1 1", all(0), 0, 0, -2, -2, 0);
    }

    private static void oneUnsure() {
        due(Edge.FEWEST + ";unsure a 0", all(2), 1, 0, 0, 1, -2);
        due(Edge.FEWEST + ";unsure a 1", all(2), 1, 0, 0, 1, -2);
        due(Edge.FEWEST + ";unsure a 1;agreed a 2 2", all(1), 0, 0, 0, 1, -2);
        due(Edge.FEWEST + ";unsure a 1;agreed a 2 0", new int[] {1}, 1, 1, 0, 1, 0);
        due(Edge.FEWEST + ";unsure a 0;agreed a 3 6", new int[] {1}, 1, 1, 0, 1, 0);
        due(Edge.FEWEST + ";unsure a 0;agreed a 2 1", all(0), 0, 0, -2, -2, 0);
    }

    private static void fourUnsureAllFit() {
        due(FOUR, all(16), 15, 0, 0, 8, -2);
        due(FOUR + ";agreed a 1 0;agreed b 1 0;agreed c 1 0;agreed e 1 0;agreed a 35 0;agreed e 35 0", all(16), 15, 0, 0,
                8, -2);
    }

    /** "Unsure STEPS in some", "in all": of one set alone the same, of each of the sixteen. */
    private static void oneOfSixteenFits() {
        String[] names = {"a", "b", "c", "e"};
        for (int set = 0; set < 16; set++) {
            String text = FOUR;
            int judge = -2;
            for (int u = 3; u >= 0; u--) {
                judge = (set >> u & 1) == 1 ? u : judge;
            }
            for (int u = 0; u < 4; u++) {
                text += ";agreed " + names[u] + " 2 " + ((set >> u & 1) == 1 ? 0 : 2);
            }
            due(text, new int[] {set}, set, set, 0, 1, judge);
        }
    }

    /** "0 without a set", "-2 no FITS" */
    private static void noneOfSixteenFits() {
        due(FOUR + ";agreed e 2 1", all(0), 0, 0, -2, -2, 0);
        due(FOUR + ";agreed a 2 2;agreed a 4 0", all(0), 0, 0, -2, -2, 1);
        due(FOUR + ";agreed a 2 2;agreed b 2 0;agreed c 2 0;agreed e 2 0;agreed a 1 0;agreed e 36 2", all(0), 0, 0, -2,
                -2, 1);
    }

    /** Of the first stack the last step fits the other way with the first one alone. */
    private static void mostUnsureAndAgreed() {
        int[] sets = {0, 1, 3, 4, 5, 7, 8, 9, 11, 12, 13, 15};
        dueOf(Edge::most, "most", sets, 15, 0, 2, 6, -2);
    }

    /** Bits by the order in which they were told; the first and the last STEP of two and of twelve. */
    private static void placesAndOrder() {
        String twelve = Edge.HEAD + "stack a uuuuuuuuuuud;";
        due(twelve + "unsure a 11;agreed a 3 12", new int[] {1}, 1, 1, 0, 1, 0);
        due(twelve + "unsure a 0;unsure a 11;agreed a 3 12", new int[] {2}, 2, 2, 0, 1, 0);
        due(twelve + "unsure a 11;unsure a 0;agreed a 3 12", new int[] {1}, 1, 1, 0, 1, 0);
        due(twelve + "unsure a 1;unsure a 2;unsure a 3;unsure a 11;agreed a 3 12", new int[] {8}, 8, 8, 0, 1, 0);
        due(Edge.HEAD + "stack a duuuuuuuuuuu;unsure a 0;unsure a 11;agreed a 3 12", new int[] {1}, 1, 1, 0, 1, 0);
        due(Edge.FEWEST + ";unsure a 1;unsure a 0;agreed a 2 2", new int[] {0, 3}, 3, 0, 0, 1, -2);
        due(Edge.FEWEST + ";stack b ud;unsure b 0;unsure a 0;agreed a 2 0", new int[] {2, 3}, 3, 2, 0, 1, 0);
    }

    /** "the first such (by its place among the unsure ones as told, from 0)": the last of four, if it tells most. */
    private static void theFirstSuchAsked() {
        due(FOUR + ";agreed a 2 0;agreed b 2 0;agreed c 2 0", new int[] {7, 15}, 15, 7, 3, 1, 0);
        due(FOUR + ";agreed a 2 0;agreed b 2 0", new int[] {3, 7, 11, 15}, 15, 3, 2, 2, 0);
        due(FOUR + ";agreed a 2 2;agreed c 2 2", new int[] {0, 2, 8, 10}, 10, 0, 1, 2, -2);
        due(FOUR + ";agreed e 2 2", all(8), 7, 0, 0, 4, -2);
        // Both steps of a stack go together, so that each of the four tells as much.
        due(Edge.HEAD + "stack a ud;stack b ud;unsure a 0;unsure a 1;unsure b 0;unsure b 1;agreed a 2 2;agreed b 2 2",
                new int[] {0, 3, 12, 15}, 15, 0, 0, 2, -2);
    }

    /** "The first agreed one, as told, that isn't so": the first, the last, none. */
    private static void judge() {
        String six = Edge.HEAD + "stack a ud;stack b uu";
        String[] agreed = {"a 1 0", "a 2 2", "a 35 0", "a 36 2", "b 3 6", "b 36 6"};
        String[] wrong = {"a 1 1", "a 2 1", "a 35 2", "a 36 36", "b 3 5", "b 36 0"};
        for (int from = 0; from <= 6; from++) {
            String text = six;
            String one = six;
            for (int i = 0; i < 6; i++) {
                text += ";agreed " + (i >= from ? wrong[i] : agreed[i]);
                one += ";agreed " + (i == from ? wrong[i] : agreed[i]);
            }
            Edge.taken("judge() of " + text, Check.told(text), ClosePacking::judge, from == 6 ? -2 : from);
            Edge.taken("judge() of " + one, Check.told(one), ClosePacking::judge, from == 6 ? -2 : from);
        }
        // By rows as told alone: what is unsure makes no difference.
        Edge.taken("it may be so", Check.told(FOUR + ";agreed a 2 0"), ClosePacking::judge, 0);
        Edge.taken("without agreed ones", Check.told(FOUR), ClosePacking::judge, -2);
    }

    /** "(all as told at first)", "by ROWS as told": acts and images change nothing of it. */
    private static void asTold() {
        String text = FOUR + ";agreed a 2 0;agreed b 2 0;agreed c 2 0;agreed e 1 0";
        Supplier<ClosePacking> scene = () -> {
            ClosePacking x = Check.told(text);
            x.image();
            x.slip(0, 0);
            x.grow(1, true);
            x.twin(2);
            x.turn(3);
            x.slip(3, 0);
            return x;
        };
        dueOf(scene, "acts", new int[] {7, 15}, 15, 7, 3, 1, 0);
        dueOf(() -> {
            ClosePacking x = scene.get();
            x.undo();
            x.back(0);
            x.cut(0);
            x.grow(0, true);
            return x;
        }, "acts, undone", new int[] {7, 15}, 15, 7, 3, 1, 0);
    }

    /** Of a lab ahead, and of one that was refused, nothing is left. */
    private static void newLab() {
        dueOf(() -> {
            ClosePacking x = Edge.most();
            Check.tell(x, Edge.FEWEST);
            return x;
        }, "fewest behind most", all(1), 0, 0, -2, -2, -2);
        dueOf(() -> {
            ClosePacking x = Check.told(FOUR + ";agreed a 2 0");
            Check.tell(x, Edge.HEAD + "stack a ud;unsure a 0;unsure a 1;agreed a 2 1;agreed a 2");
            return x;
        }, "four behind a fault", new int[] {1, 3, 5, 7, 9, 11, 13, 15}, 15, 1, 1, 4, 0);
    }

    private static void withoutLab() {
        int[] asked = {0, -1, 1, 15, Integer.MAX_VALUE, Integer.MIN_VALUE};
        for (int i : asked) {
            Edge.refused("fitAt(" + i + ") without a lab", Edge::none, x -> x.fitAt(i), -1, 1);
        }
        Edge.refused("fits() without a lab", Edge::none, ClosePacking::fits, -1, 1);
        Edge.refused("could() without a lab", Edge::none, ClosePacking::could, -1, 1);
        Edge.refused("surely() without a lab", Edge::none, ClosePacking::surely, -1, 1);
        Edge.refused("ask() without a lab", Edge::none, ClosePacking::ask, -1, 1);
        Edge.refused("askLeaves() without a lab", Edge::none, ClosePacking::askLeaves, -1, 1);
        Edge.refused("judge() without a lab", Edge::none, ClosePacking::judge, -1, 1);
    }
}
