/** Promises 19 to 22: rows of least energy. */
public final class GroundTest {
    public static void main(String[] args) {
        likeNeighbours();
        unlikeNeighbours();
        threeNeighbours();
        best();
        refusals();
        Check.end();
    }

    private static ClosePacking lab(String numbers) {
        return Check.told("lab " + numbers + " growth 50;stack a uud");
    }

    private static void due(ClosePacking x, int n, int energy, int row, int many) {
        Check.due(x, "ground(" + n + ")", x.ground(n), energy, 0);
        Check.due(x, "groundRow(" + n + ")", x.groundRow(n), row, 0);
        x.groundBest();
        Check.due(x, "groundMany(" + n + ")", x.groundMany(n), many, 0);
        x.groundBest();
        Check.due(x, "groundRow(" + n + ") again", x.groundRow(n), row, 0);
    }

    private static void likeNeighbours() {
        ClosePacking x = lab("near 7 second 0 third 0");
        for (int n = 2; n <= 12; n++) {
            due(x, n, -7 * n, 0, 2);
        }
        x = lab("near 0 second 0 third 0");
        for (int n = 2; n <= 12; n++) {
            due(x, n, 0, 0, 1 << n);
        }
    }

    private static void unlikeNeighbours() {
        ClosePacking x = lab("near -1 second 0 third 0");
        due(x, 2, -2, 1, 2);
        due(x, 3, -1, 1, 6);
        due(x, 4, -4, 5, 2);
        due(x, 5, -3, 5, 10);
        due(x, 12, -12, 0x555, 2);
        x.twin(0);
        x.slip(0, 0);
        due(x, 3, -1, 1, 6);
    }

    private static void threeNeighbours() {
        ClosePacking x = lab("near 3 second -7 third 5");
        int[][] due = {{2, -2, 0, 2}, {3, -19, 1, 6}, {4, -28, 3, 4}, {5, -9, 3, 10}, {6, -38, 9, 6},
            {7, -47, 19, 14}, {8, -56, 51, 4}, {9, -57, 73, 6}, {10, -66, 147, 30}, {11, -75, 307, 22},
            {12, -84, 819, 4}};
        for (int[] d : due) {
            due(x, d[0], d[1], d[2], d[3]);
        }
        x = lab("near 99 second 99 third 99");
        due(x, 12, -3564, 0, 2);
    }

    private static void best() {
        String[] labs = {"near 1 second 0 third 0", "near 0 second 0 third 0", "near -1 second 0 third 0",
            "near 3 second -7 third 5", "near -1 second -1 third 0", "near 0 second -1 third -1",
            "near -1 second -1 third 2"};
        int[] due = {2, 2, 2, 4, 4, 6, 3};
        for (int i = 0; i < labs.length; i++) {
            ClosePacking x = lab(labs[i]);
            Check.due(x, "groundBest() of " + labs[i], x.groundBest(), due[i], 0);
        }
    }

    private static void refusals() {
        ClosePacking x = lab("near 1 second 0 third 0");
        int[] wrong = {1, 13, 0, -1, Integer.MAX_VALUE, Integer.MIN_VALUE};
        ClosePacking none = new ClosePacking();
        for (int n : wrong) {
            Check.due(x, "ground(" + n + ")", x.ground(n), -1000000, 2);
            Check.due(x, "groundRow(" + n + ")", x.groundRow(n), -1, 2);
            Check.due(x, "groundMany(" + n + ")", x.groundMany(n), -1, 2);
            Check.due(none, "ground(" + n + ") without a lab", none.ground(n), -1000000, 1);
            Check.due(none, "groundRow(" + n + ") without a lab", none.groundRow(n), -1, 1);
            Check.due(none, "groundMany(" + n + ") without a lab", none.groundMany(n), -1, 1);
        }
        Check.due(none, "ground(2) without a lab", none.ground(2), -1000000, 1);
        Check.due(none, "groundRow(2) without a lab", none.groundRow(2), -1, 1);
        Check.due(none, "groundMany(2) without a lab", none.groundMany(2), -1, 1);
        Check.due(none, "groundBest() without a lab", none.groundBest(), -1, 1);
    }
}
