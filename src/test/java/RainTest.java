/** Promise 17: floods. */
final class RainTest {
    private static final Check CHECK = new Check("RainTest");

    public static void main(String[] args) {
        runsDown();
        ditchSwallows();
        choosesTheLowestNeighbour();
        staysOnTheFlat();
        goesFromTheTop();
        goesFromTheGreatestHeight();
        staysWithinTheEdges();
        refuses();
        CHECK.end();
    }

    private static void runsDown() {
        for (int rain = 0; rain <= 9; rain++) {
            TentCamp camp = new TentCamp();
            long before = camp.digest();
            for (int cell = 0; cell < 100; cell++) {
                int x = cell % 10;
                int y = cell / 10;
                CHECK.due("flood(" + rain + ", " + x + ", " + y + ")", camp.flood(rain, x, y), rain * (y + 1));
            }
            CHECK.due("flood() changes nothing", camp.digest(), before);
        }
    }

    private static void ditchSwallows() {
        TentCamp camp = new TentCamp();
        camp.ditch(4, 6);
        CHECK.due("flood(2, 4, 6) of a ditch", camp.flood(2, 4, 6), 14);
        CHECK.due("flood(2, 4, 7) below a ditch", camp.flood(2, 4, 7), 2);
        CHECK.due("flood(2, 4, 9) below a ditch", camp.flood(2, 4, 9), 6);
        CHECK.due("flood(2, 5, 9) beside it", camp.flood(2, 5, 9), 20);
        CHECK.due("flood(0, 4, 6) of a ditch without rain", camp.flood(0, 4, 6), 0);
        CHECK.due("flood(9, 4, 6) of a ditch", camp.flood(9, 4, 6), 63);
        camp.ditch(4, 6);
        CHECK.due("flood(2, 4, 9) with the ditch filled up", camp.flood(2, 4, 9), 20);
    }

    /** A cell at (5, 5), 10 high, and its neighbours, among ditches that keep all other water away. */
    private static TentCamp cross(int above, int left, int right, int below) {
        TentCamp camp = new TentCamp();
        for (int cell = 0; cell < 100; cell++) {
            camp.setGround(cell % 10, cell / 10, 20, 5);
            camp.ditch(cell % 10, cell / 10);
        }
        dig(camp, 5, 5, 10);
        dig(camp, 5, 4, above);
        dig(camp, 4, 5, left);
        dig(camp, 6, 5, right);
        dig(camp, 5, 6, below);
        return camp;
    }

    private static void dig(TentCamp camp, int x, int y, int height) {
        camp.ditch(x, y);
        camp.setGround(x, y, height, 5);
    }

    private static void toldIn(String when, TentCamp camp, int here, int above, int left, int right, int below) {
        CHECK.due(when + ": here", camp.flood(1, 5, 5), here);
        CHECK.due(when + ": above", camp.flood(1, 5, 4), above);
        CHECK.due(when + ": left", camp.flood(1, 4, 5), left);
        CHECK.due(when + ": right", camp.flood(1, 6, 5), right);
        CHECK.due(when + ": below", camp.flood(1, 5, 6), below);
    }

    private static void choosesTheLowestNeighbour() {
        toldIn("all as low", cross(5, 5, 5, 5), 1, 2, 1, 1, 1);
        toldIn("left, right and below", cross(6, 5, 5, 5), 1, 1, 2, 1, 1);
        toldIn("right and below", cross(6, 6, 5, 5), 1, 1, 1, 2, 1);
        toldIn("below alone", cross(6, 6, 6, 5), 1, 1, 1, 1, 2);
        toldIn("right alone", cross(5, 5, 4, 5), 1, 1, 1, 2, 1);
        toldIn("left alone", cross(5, 4, 5, 5), 1, 1, 2, 1, 1);
        toldIn("none is lower", cross(10, 10, 10, 10), 1, 1, 1, 1, 1);
        toldIn("one is lower by 1", cross(10, 10, 10, 9), 1, 1, 1, 1, 2);
        toldIn("all are higher", cross(12, 12, 12, 12), 5, 1, 1, 1, 1);
        toldIn("through, from above to below", cross(11, 11, 10, 9), 3, 1, 1, 1, 4);
    }

    private static void staysOnTheFlat() {
        TentCamp camp = new TentCamp();
        for (int cell = 0; cell < 100; cell++) {
            camp.setGround(cell % 10, cell / 10, 20, 5);
        }
        for (int cell = 0; cell < 100; cell++) {
            CHECK.due("flood(7) of the flat cell " + cell, camp.flood(7, cell % 10, cell / 10), 7);
        }
    }

    /** Upwards from below, and from right to left, against the order of the cells. */
    private static void goesFromTheTop() {
        TentCamp camp = new TentCamp();
        for (int y = 0; y < 10; y++) {
            for (int x = 0; x < 10; x++) {
                camp.setGround(x, y, 2 * x + y, 5);
            }
        }
        CHECK.due("flood(1, 0, 9)", camp.flood(1, 0, 9), 10);
        CHECK.due("flood(1, 0, 5)", camp.flood(1, 0, 5), 50);
        CHECK.due("flood(1, 0, 0)", camp.flood(1, 0, 0), 100);
        CHECK.due("flood(9, 0, 0)", camp.flood(9, 0, 0), 900);
        CHECK.due("flood(9, 9, 9)", camp.flood(9, 9, 9), 9);
    }

    /** From the greatest height there is to the least, one above the other. */
    private static void goesFromTheGreatestHeight() {
        TentCamp camp = cross(30, 29, 29, 0);
        camp.setGround(5, 5, 1, 5);
        toldIn("30 and 0 high", camp, 4, 1, 1, 1, 5);
        camp.setGround(5, 5, 30, 5);
        toldIn("30 beside 30 high", camp, 1, 1, 1, 1, 2);
        camp.setGround(5, 6, 30, 5);
        toldIn("30 beside 29 high", camp, 1, 1, 2, 1, 1);
        TentCamp low = cross(0, 0, 0, 0);
        low.setGround(5, 5, 0, 5);
        toldIn("all 0 high", low, 1, 1, 1, 1, 1);
        low.setGround(5, 5, 1, 5);
        toldIn("1 high among 0", low, 1, 2, 1, 1, 1);
    }

    /** In a corner the lower cells that a row's end would lead to are no neighbours. */
    private static void staysWithinTheEdges() {
        int[] corners = {0, 9, 90, 99};
        for (int corner : corners) {
            TentCamp camp = new TentCamp();
            for (int cell = 0; cell < 100; cell++) {
                int x = Math.abs(cell % 10 - corner % 10);
                int y = Math.abs(cell / 10 - corner / 10);
                camp.setGround(cell % 10, cell / 10, x + y <= 1 ? 20 - x - y : 0, 5);
            }
            int inwards = corner % 10 == 0 ? 1 : -1;
            int downwards = corner / 10 == 0 ? 1 : -1;
            int beside = corner + inwards;
            int across = corner + 10 * downwards;
            int to = downwards < 0 ? across : beside;
            CHECK.due("flood() of the corner " + corner, flood(camp, corner), 1);
            CHECK.due("flood() where the corner " + corner + " runs to", flood(camp, to), 2);
            CHECK.due("flood() of the other one", flood(camp, beside + across - to), 1);
        }
    }

    private static int flood(TentCamp camp, int cell) {
        return camp.flood(1, cell % 10, cell / 10);
    }

    private static void refuses() {
        TentCamp camp = new TentCamp();
        CHECK.badArgument("flood(-1, 0, 0)", camp, () -> camp.flood(-1, 0, 0));
        CHECK.badArgument("flood(10, 0, 0)", camp, () -> camp.flood(10, 0, 0));
        CHECK.badArgument("flood(10, 10, 0)", camp, () -> camp.flood(10, 10, 0));
        CHECK.outOfBounds("flood(5, -1, 0)", camp, () -> camp.flood(5, -1, 0));
        CHECK.outOfBounds("flood(5, 10, 0)", camp, () -> camp.flood(5, 10, 0));
        CHECK.outOfBounds("flood(5, 0, -1)", camp, () -> camp.flood(5, 0, -1));
        CHECK.outOfBounds("flood(5, 0, 10)", camp, () -> camp.flood(5, 0, 10));
    }
}
