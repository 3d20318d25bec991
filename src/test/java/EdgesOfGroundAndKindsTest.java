/** Boundary cases of promises 19 to 26: rows of least energy of 2 and of 12 steps, kinds of 1 and of 12. */
public final class EdgesOfGroundAndKindsTest {
    private static final int[] WRONG_STEPS = {1, 13, 0, -1, Integer.MAX_VALUE, Integer.MIN_VALUE};
    private static final int[] WRONG_HOWS = {-1, 4, Integer.MAX_VALUE, Integer.MIN_VALUE};

    public static void main(String[] args) {
        groundOfTwo();
        groundOfTwelve();
        groundOfExtremes();
        groundByItself();
        groundIsOfTheLab();
        groundRefused();
        groundBest();
        kindsOfOne();
        kindsOfTwo();
        kindsOfTwelve();
        kindsRefused();
        alike();
        alikeNotAsManySteps();
        alikeRefused();
        leastAndMany();
        leastAndManyRefused();
        Check.end();
    }

    private static void dueGround(ClosePacking x, int n, int energy, int row, int many) {
        Edge.taken("ground(" + n + ")", x, y -> y.ground(n), energy);
        Edge.taken("groundRow(" + n + ")", x, y -> y.groundRow(n), row);
        Edge.taken("groundMany(" + n + ")", x, y -> y.groundMany(n), many);
    }

    private static void groundOfTwo() {
        dueGround(Edge.lab(1, 0, 0, 0, "ud"), 2, -2, 0, 2);
        dueGround(Edge.lab(-1, 0, 0, 0, "ud"), 2, -2, 1, 2);
        dueGround(Edge.lab(0, 1, 0, 0, "ud"), 2, -2, 0, 4);
        dueGround(Edge.lab(0, -1, 0, 0, "ud"), 2, 2, 0, 4);
        dueGround(Edge.lab(0, 0, 0, 0, "ud"), 2, 0, 0, 4);
        dueGround(Edge.lab(99, 99, 99, 0, "ud"), 2, -594, 0, 2);
        dueGround(Edge.lab(-99, 99, -99, 0, "ud"), 2, -594, 1, 2);
    }

    private static void groundOfTwelve() {
        dueGround(Edge.lab(1, 0, 0, 0, "ud"), 12, -12, 0, 2);
        dueGround(Edge.lab(-1, 0, 0, 0, "ud"), 12, -12, 0x555, 2);
        dueGround(Edge.lab(0, -1, 0, 0, "ud"), 12, -12, 0x333, 4);
        dueGround(Edge.lab(0, 0, -1, 0, "ud"), 12, -12, 0x1c7, 8);
        dueGround(Edge.lab(0, 0, 0, 0, "ud"), 12, 0, 0, 4096);
        dueGround(Edge.lab(99, 99, 99, 0, "ud"), 12, -3564, 0, 2);
        dueGround(Edge.lab(-99, 99, -99, 0, "ud"), 12, -3564, 0x555, 2);
    }

    /** Each number at its least, at 0 and at its greatest, of all n. */
    private static void groundOfExtremes() {
        int[] numbers = {-99, 0, 99};
        for (int near : numbers) {
            for (int second : numbers) {
                for (int third : numbers) {
                    ClosePacking x = Edge.lab(near, second, third, 0, "ud");
                    for (int n = 2; n <= 12; n++) {
                        dueGroundOf(x, n, near, second, third);
                    }
                }
            }
        }
    }

    private static void dueGroundOf(ClosePacking x, int n, int near, int second, int third) {
        int least = Integer.MAX_VALUE;
        int first = -1;
        int many = 0;
        for (int row = 0; row < 1 << n; row++) {
            int energy = 0;
            for (int k = 0; k < n; k++) {
                int product = near * step(row, n, k + 1) + second * step(row, n, k + 2) + third * step(row, n, k + 3);
                energy -= step(row, n, k) * product;
            }
            first = energy < least ? row : first;
            many = energy < least ? 1 : energy == least ? many + 1 : many;
            least = Math.min(least, energy);
        }
        dueGround(x, n, least, first, many);
    }

    private static int step(int row, int n, int k) {
        return (row >> (n - 1 - k % n)) % 2 == 1 ? 1 : -1;
    }

    /** Each call by itself, behind one of another n, and of another lab. */
    private static void groundByItself() {
        for (int n = 2; n <= 12; n += 5) {
            int steps = n;
            for (int ahead = 2; ahead <= 12; ahead += 5) {
                ClosePacking x = Edge.lab(-1, 0, 0, 0, "ud");
                x.ground(ahead);
                Edge.taken("groundRow(" + n + ")", x, y -> y.groundRow(steps), n == 2 ? 1 : n == 7 ? 0x15 : 0x555);
                x.ground(ahead);
                Edge.taken("groundMany(" + n + ")", x, y -> y.groundMany(steps), n == 7 ? 14 : 2);
                Check.tell(x, "lab near 1 second 0 third 0 growth 0;stack a ud");
                Edge.taken("groundRow(" + n + ") of another lab", x, y -> y.groundRow(steps), 0);
                Edge.taken("ground(" + n + ") of another lab", x, y -> y.ground(steps), -n);
            }
        }
    }

    /** Not of the stacks, nor of acts. */
    private static void groundIsOfTheLab() {
        ClosePacking x = Edge.most();
        dueGround(x, 2, 99 * -2 + 99 * 2 - 99 * 2, 0, 2);
        x.twin(0);
        x.undo();
        dueGround(x, 2, 99 * -2 + 99 * 2 - 99 * 2, 0, 2);
        x.lab(500);
        dueGround(x, 12, 0, 0, 4096);
    }

    private static void groundRefused() {
        for (int n : WRONG_STEPS) {
            Edge.refused("ground(" + n + ")", Edge::fewest, x -> x.ground(n), -1000000, 2);
            Edge.refused("groundRow(" + n + ")", Edge::fewest, x -> x.groundRow(n), -1, 2);
            Edge.refused("groundMany(" + n + ")", Edge::most, x -> x.groundMany(n), -1, 2);
            Edge.refused("ground(" + n + ") without a lab", Edge::none, x -> x.ground(n), -1000000, 1);
            Edge.refused("groundRow(" + n + ") without a lab", Edge::none, x -> x.groundRow(n), -1, 1);
            Edge.refused("groundMany(" + n + ") without a lab", Edge::none, x -> x.groundMany(n), -1, 1);
        }
        for (int n = 2; n <= 12; n += 10) {
            int steps = n;
            Edge.refused("ground(" + n + ") without a lab", Edge::none, x -> x.ground(steps), -1000000, 1);
            Edge.refused("groundRow(" + n + ") without a lab", Edge::none, x -> x.groundRow(steps), -1, 1);
            Edge.refused("groundMany(" + n + ") without a lab", Edge::none, x -> x.groundMany(steps), -1, 1);
        }
        Edge.refused("groundBest() without a lab", Edge::none, ClosePacking::groundBest, -1, 1);
    }

    /** "as a part of n, is least, the first such": of equal parts 2; 3, 4 and 6 where shorter rows can't be as low. */
    private static void groundBest() {
        int[][] labs = {{0, 0, 0}, {99, 99, 99}, {-99, 99, -99}, {1, 0, 0}, {-1, -1, 2}, {-9, -9, 3}, {0, -1, 0},
            {3, -7, 5}, {0, -1, -1}, {-8, -9, -9}, {0, 0, -1}};
        int[] due = {2, 2, 2, 2, 3, 3, 4, 4, 6, 6, 2};
        for (int i = 0; i < labs.length; i++) {
            Edge.taken("groundBest() " + i, Edge.lab(labs[i][0], labs[i][1], labs[i][2], 0, "ud"),
                    ClosePacking::groundBest, due[i]);
        }
    }

    private static void kindsOfOne() {
        ClosePacking x = Edge.fewest();
        for (int how = 0; how <= 3; how++) {
            int asked = how;
            Edge.taken("kinds(1, " + how + ", false)", x, y -> y.kinds(1, asked, false), how == 0 ? 2 : 1);
            Edge.taken("kinds(1, " + how + ", true)", x, y -> y.kinds(1, asked, true), 0);
        }
    }

    private static void kindsOfTwo() {
        ClosePacking x = Edge.fewest();
        for (int how = 0; how <= 3; how++) {
            int asked = how;
            Edge.taken("kinds(2, " + how + ", false)", x, y -> y.kinds(2, asked, false), how == 0 ? 3 : 2);
            Edge.taken("kinds(2, " + how + ", true)", x, y -> y.kinds(2, asked, true), 1);
        }
    }

    /** Known of necklaces of two colours: turned; with colours changed; by both of them, and from below. */
    private static void kindsOfTwelve() {
        ClosePacking x = Edge.most();
        int[] all = {352, 180, 192, 122};
        int[] closed = {120, 64, 76, 48};
        for (int how = 0; how <= 3; how++) {
            int asked = how;
            Edge.taken("kinds(12, " + how + ", false)", x, y -> y.kinds(12, asked, false), all[how]);
            Edge.taken("kinds(12, " + how + ", true)", x, y -> y.kinds(12, asked, true), closed[how]);
        }
    }

    private static void kindsRefused() {
        int[] wrong = {0, 13, -1, Integer.MAX_VALUE, Integer.MIN_VALUE};
        for (int n : wrong) {
            for (int how = 0; how <= 3; how += 3) {
                int asked = how;
                Edge.refused("kinds(" + n + ", " + how + ")", Edge::fewest, x -> x.kinds(n, asked, false), -1, 2);
                Edge.refused("kinds(" + n + ", " + how + ", true)", Edge::most, x -> x.kinds(n, asked, true), -1, 2);
            }
            Edge.refused("kinds(" + n + ", 0) without a lab", Edge::none, x -> x.kinds(n, 0, false), -1, 1);
        }
        for (int how : WRONG_HOWS) {
            Edge.refused("kinds(1, " + how + ")", Edge::fewest, x -> x.kinds(1, how, false), -1, 2);
            Edge.refused("kinds(12, " + how + ", true)", Edge::most, x -> x.kinds(12, how, true), -1, 2);
            Edge.refused("kinds(0, " + how + ")", Edge::fewest, x -> x.kinds(0, how, false), -1, 2);
            Edge.refused("kinds(1, " + how + ") without a lab", Edge::none, x -> x.kinds(1, how, true), -1, 1);
        }
        Edge.refused("kinds(1, 0) without a lab", Edge::none, x -> x.kinds(1, 0, false), -1, 1);
        Edge.refused("kinds(12, 3) without a lab", Edge::none, x -> x.kinds(12, 3, true), -1, 1);
    }

    private static void dueAlike(String one, String other, int... due) {
        ClosePacking x = Edge.stacks(one, other);
        for (int how = 0; how <= 3; how++) {
            int asked = how;
            String what = "alike by " + how + ": " + one + ", " + other;
            Edge.taken(what, x, y -> y.alike(0, 1, asked), due[how]);
            Edge.taken(what + ", the other way about", x, y -> y.alike(1, 0, asked), due[how]);
            Edge.taken(what + ", one and itself", x, y -> y.alike(0, 0, asked), 1);
            Edge.taken(what + ", the other one and itself", x, y -> y.alike(1, 1, asked), 1);
        }
    }

    private static void alike() {
        dueAlike("ud", "du", 1, 1, 1, 1);
        dueAlike("uu", "uu", 1, 1, 1, 1);
        dueAlike("uu", "dd", 0, 1, 1, 1);
        dueAlike("uu", "ud", 0, 0, 0, 0);
        dueAlike("uuuuuuuuuuuu", "dddddddddddd", 0, 1, 1, 1);
        dueAlike("uuuuuuuuuuud", "duuuuuuuuuuu", 1, 1, 1, 1);
        dueAlike("uuuuuuuuuuud", "uuuuuuuuuudd", 0, 0, 0, 0);
        // Turned; twinned; from below; twinned and from below, which is told from its end alone; another row.
        String row = "uuuuuuuududd";
        dueAlike(row, "duuuuuuuudud", 1, 1, 1, 1);
        dueAlike(row, "dddddddduduu", 0, 1, 0, 1);
        dueAlike(row, "uududddddddd", 0, 0, 1, 1);
        dueAlike(row, "dduduuuuuuuu", 0, 0, 0, 1);
        dueAlike(row, "uduuuuuuuudd", 0, 0, 0, 1);
        dueAlike(row, "uuuuuuuuuddd", 0, 0, 0, 0);
    }

    /** "else 0 (not as many STEPS, too)": no refusal. */
    private static void alikeNotAsManySteps() {
        ClosePacking x = Edge.stacks("uu", "uuu", "uuuuuuuuuuuu", "uuuuuuuuuuu", "uuuu");
        for (int s = 0; s < 5; s++) {
            for (int t = 0; t < 5; t++) {
                int one = s;
                int other = t;
                Edge.taken("alike by 0", x, y -> y.alike(one, other, 0), s == t ? 1 : 0);
                Edge.taken("alike by 3", x, y -> y.alike(one, other, 3), s == t ? 1 : 0);
            }
        }
        x.grow(1, true);
        Edge.taken("alike now", x, y -> y.alike(1, 4, 0), 1);
    }

    private static void alikeRefused() {
        for (int how : WRONG_HOWS) {
            Edge.refused("alike(0, 0, " + how + ")", Edge::fewest, x -> x.alike(0, 0, how), -1, 2);
            Edge.refused("alike(0, 4, " + how + ")", Edge::most, x -> x.alike(0, 4, how), -1, 2);
            Edge.refused("alike(5, 0, " + how + ")", Edge::most, x -> x.alike(5, 0, how), -1, 1);
            Edge.refused("not as many steps, and how " + how, () -> Edge.stacks("ud", "uud"),
                    x -> x.alike(0, 1, how), -1, 2);
        }
        int[] wrong = {-1, 5, Integer.MAX_VALUE, Integer.MIN_VALUE};
        for (int s : wrong) {
            Edge.refused("alike(" + s + ", 0, 0)", Edge::most, x -> x.alike(s, 0, 0), -1, 1);
            Edge.refused("alike(0, " + s + ", 3)", Edge::most, x -> x.alike(0, s, 3), -1, 1);
            Edge.refused("alike(" + s + ", " + s + ", 3)", Edge::most, x -> x.alike(s, s, 3), -1, 1);
        }
        Edge.refused("alike(0, 1, 0) of one", Edge::fewest, x -> x.alike(0, 1, 0), -1, 1);
        Edge.refused("alike(0, 0, 0) without a lab", Edge::none, x -> x.alike(0, 0, 0), -1, 1);
    }

    private static void dueLeast(String row, int[] least, int[] many) {
        ClosePacking x = Edge.stacks(row);
        for (int how = 0; how <= 3; how++) {
            int asked = how;
            Edge.taken("least by " + how + " of " + row, x, y -> y.least(0, asked), least[how]);
            Edge.taken("manyAlike by " + how + " of " + row, x, y -> y.manyAlike(0, asked), many[how]);
        }
    }

    /** One alone, up to 48 of twelve steps. */
    private static void leastAndMany() {
        dueLeast("uu", new int[] {3, 0, 0, 0}, new int[] {1, 2, 2, 2});
        dueLeast("dd", new int[] {0, 0, 0, 0}, new int[] {1, 2, 2, 2});
        dueLeast("ud", new int[] {1, 1, 1, 1}, new int[] {2, 2, 2, 2});
        dueLeast("uuuuuuuuuuuu", new int[] {4095, 0, 0, 0}, new int[] {1, 2, 2, 2});
        dueLeast("dddddddddddd", new int[] {0, 0, 0, 0}, new int[] {1, 2, 2, 2});
        dueLeast("udududududud", new int[] {0x555, 0x555, 0x555, 0x555}, new int[] {2, 2, 2, 2});
        dueLeast("uuuuuuuuuuud", new int[] {2047, 1, 1, 1}, new int[] {12, 24, 24, 24});
        dueLeast("uuuuuuuududd", new int[] {1021, 11, 13, 11}, new int[] {12, 24, 24, 48});
        dueLeast("uuuuuuuuddud", new int[] {767, 13, 11, 11}, new int[] {12, 24, 24, 48});
    }

    private static void leastAndManyRefused() {
        for (int how : WRONG_HOWS) {
            Edge.refused("least(0, " + how + ")", Edge::fewest, x -> x.least(0, how), -1, 2);
            Edge.refused("least(4, " + how + ")", Edge::most, x -> x.least(4, how), -1, 2);
            Edge.refused("least(5, " + how + ")", Edge::most, x -> x.least(5, how), -1, 1);
            Edge.refused("manyAlike(0, " + how + ")", Edge::fewest, x -> x.manyAlike(0, how), -1, 2);
            Edge.refused("manyAlike(4, " + how + ")", Edge::most, x -> x.manyAlike(4, how), -1, 2);
            Edge.refused("manyAlike(5, " + how + ")", Edge::most, x -> x.manyAlike(5, how), -1, 1);
        }
        int[] wrong = {-1, 5, Integer.MAX_VALUE, Integer.MIN_VALUE};
        for (int s : wrong) {
            Edge.refused("least(" + s + ", 0)", Edge::most, x -> x.least(s, 0), -1, 1);
            Edge.refused("manyAlike(" + s + ", 3)", Edge::most, x -> x.manyAlike(s, 3), -1, 1);
        }
        Edge.refused("least(1, 0) of one", Edge::fewest, x -> x.least(1, 0), -1, 1);
        Edge.refused("manyAlike(1, 0) of one", Edge::fewest, x -> x.manyAlike(1, 0), -1, 1);
        Edge.refused("least(0, 0) without a lab", Edge::none, x -> x.least(0, 0), -1, 1);
        Edge.refused("manyAlike(0, 0) without a lab", Edge::none, x -> x.manyAlike(0, 0), -1, 1);
    }
}
