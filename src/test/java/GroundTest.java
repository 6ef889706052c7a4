/** Promises 1, 2, 3, 10 and 21: a new camp, and the cells of its slope. */
final class GroundTest {
    private static final Check CHECK = new Check("GroundTest");

    public static void main(String[] args) {
        newCamp();
        setGround();
        setGroundAtTheEdges();
        setGroundRefuses();
        ditch();
        ground();
        mean();
        meanAtItsEdges();
        CHECK.end();
    }

    private static void newCamp() {
        TentCamp camp = new TentCamp();
        for (int what = 0; what <= 7; what++) {
            CHECK.due("new: count(" + what + ")", camp.count(what), 0);
        }
        for (int y = 0; y < 10; y++) {
            for (int x = 0; x < 10; x++) {
                String cell = "new: ground(" + x + ", " + y + ", ";
                CHECK.due(cell + "0)", camp.ground(x, y, 0), 9 - y);
                CHECK.due(cell + "1)", camp.ground(x, y, 1), 5);
                CHECK.due(cell + "2)", camp.ground(x, y, 2), 0);
                CHECK.due(cell + "3)", camp.ground(x, y, 3), -1);
                CHECK.due(cell + "4)", camp.ground(x, y, 4), -1);
            }
        }
        TentCamp other = new TentCamp();
        for (int night = 0; night < 7; night++) {
            CHECK.due("new: setNight(" + night + ", 0, 0, 0)", other.setNight(night, 0, 0, 0), 0);
        }
    }

    private static void setGround() {
        TentCamp camp = new TentCamp();
        CHECK.due("setGround(0, 0, 30, 9)", camp.setGround(0, 0, 30, 9), 95);
        CHECK.due("setGround(0, 0, 0, 1)", camp.setGround(0, 0, 0, 1), 309);
        CHECK.due("setGround(0, 0, 7, 3)", camp.setGround(0, 0, 7, 3), 1);
        CHECK.due("setGround(9, 9, 12, 4)", camp.setGround(9, 9, 12, 4), 5);
        CHECK.due("ground(0, 0, 0)", camp.ground(0, 0, 0), 7);
        CHECK.due("ground(0, 0, 1)", camp.ground(0, 0, 1), 3);
        CHECK.due("ground(9, 9, 0)", camp.ground(9, 9, 0), 12);
        CHECK.due("ground(9, 9, 1)", camp.ground(9, 9, 1), 4);
        CHECK.due("setGround(3, 7, 20, 2)", camp.setGround(3, 7, 20, 2), 25);
        CHECK.due("ground(3, 7, 0)", camp.ground(3, 7, 0), 20);
        CHECK.due("ground(7, 3, 0)", camp.ground(7, 3, 0), 6);
    }

    private static void setGroundAtTheEdges() {
        TentCamp camp = new TentCamp();
        int[] corners = {0, 9, 90, 99};
        for (int corner : corners) {
            int x = corner % 10;
            int y = corner / 10;
            String cell = "(" + x + ", " + y + ", ";
            CHECK.due("setGround" + cell + "30, 9)", camp.setGround(x, y, 30, 9), 10 * (9 - y) + 5);
            CHECK.due("ground" + cell + "0) at most", camp.ground(x, y, 0), 30);
            CHECK.due("ground" + cell + "1) at most", camp.ground(x, y, 1), 9);
            CHECK.due("setGround" + cell + "0, 1)", camp.setGround(x, y, 0, 1), 309);
            CHECK.due("ground" + cell + "0) at least", camp.ground(x, y, 0), 0);
            CHECK.due("ground" + cell + "1) at least", camp.ground(x, y, 1), 1);
        }
        CHECK.due("ground(1, 0, 0) beside a corner", camp.ground(1, 0, 0), 9);
        CHECK.due("ground(8, 9, 1) beside a corner", camp.ground(8, 9, 1), 5);
        CHECK.due("setGround(9, 9, 0, 1) as it is", camp.setGround(9, 9, 0, 1), 1);
        camp.ditch(9, 9);
        camp.setGround(9, 9, 3, 3);
        CHECK.due("ground(9, 9, 2) keeps its ditch", camp.ground(9, 9, 2), 1);
    }

    private static void setGroundRefuses() {
        TentCamp camp = new TentCamp();
        CHECK.outOfBounds("setGround(-1, 0, 5, 5)", camp, () -> camp.setGround(-1, 0, 5, 5));
        CHECK.outOfBounds("setGround(10, 0, 5, 6)", camp, () -> camp.setGround(10, 0, 5, 6));
        CHECK.outOfBounds("setGround(0, -1, 5, 6)", camp, () -> camp.setGround(0, -1, 5, 6));
        CHECK.outOfBounds("setGround(0, 10, 5, 6)", camp, () -> camp.setGround(0, 10, 5, 6));
        CHECK.badArgument("setGround(0, 0, -1, 6)", camp, () -> camp.setGround(0, 0, -1, 6));
        CHECK.badArgument("setGround(0, 0, 31, 6)", camp, () -> camp.setGround(0, 0, 31, 6));
        CHECK.badArgument("setGround(0, 0, 5, 0)", camp, () -> camp.setGround(0, 0, 5, 0));
        CHECK.badArgument("setGround(0, 0, 5, 10)", camp, () -> camp.setGround(0, 0, 5, 10));
        CHECK.outOfBounds("setGround(0, 10, 31, 0)", camp, () -> camp.setGround(0, 10, 31, 0));
        CHECK.outOfBounds("setGround(MIN, MAX, MIN, MAX)", camp, () -> camp.setGround(
                Integer.MIN_VALUE, Integer.MAX_VALUE, Integer.MIN_VALUE, Integer.MAX_VALUE));
    }

    private static void ditch() {
        TentCamp camp = new TentCamp();
        CHECK.due("ditch(2, 8)", camp.ditch(2, 8), true);
        CHECK.due("ditch(9, 0)", camp.ditch(9, 0), true);
        CHECK.due("ground(2, 8, 2)", camp.ground(2, 8, 2), 1);
        CHECK.due("ground(8, 2, 2)", camp.ground(8, 2, 2), 0);
        CHECK.due("count(7)", camp.count(7), 2);
        CHECK.due("ditch(2, 8)", camp.ditch(2, 8), false);
        CHECK.due("ground(2, 8, 2)", camp.ground(2, 8, 2), 0);
        CHECK.due("count(7)", camp.count(7), 1);
        CHECK.due("ditch(2, 8)", camp.ditch(2, 8), true);
        CHECK.due("ditch(0, 0)", camp.ditch(0, 0), true);
        CHECK.due("ditch(0, 9)", camp.ditch(0, 9), true);
        CHECK.due("ditch(9, 9)", camp.ditch(9, 9), true);
        CHECK.due("count(7)", camp.count(7), 5);
        CHECK.outOfBounds("ditch(-1, 4)", camp, () -> camp.ditch(-1, 4));
        CHECK.outOfBounds("ditch(10, 4)", camp, () -> camp.ditch(10, 4));
        CHECK.outOfBounds("ditch(4, -1)", camp, () -> camp.ditch(4, -1));
        CHECK.outOfBounds("ditch(4, 10)", camp, () -> camp.ditch(4, 10));
    }

    private static void ground() {
        TentCamp camp = new TentCamp();
        camp.drive(1, 2);
        camp.drive(3, 4);
        camp.pitch(5, 6, 1);
        camp.pitch(3, 4, 1);
        CHECK.due("ground(1, 2, 3)", camp.ground(1, 2, 3), 0);
        CHECK.due("ground(1, 2, 4)", camp.ground(1, 2, 4), -1);
        CHECK.due("ground(5, 6, 3)", camp.ground(5, 6, 3), -1);
        CHECK.due("ground(5, 6, 4)", camp.ground(5, 6, 4), 0);
        CHECK.due("ground(3, 4, 3)", camp.ground(3, 4, 3), 1);
        CHECK.due("ground(3, 4, 4)", camp.ground(3, 4, 4), 1);
        CHECK.due("ground(4, 3, 3)", camp.ground(4, 3, 3), -1);
        CHECK.outOfBounds("ground(-1, 0, 0)", camp, () -> camp.ground(-1, 0, 0));
        CHECK.outOfBounds("ground(10, 0, 0)", camp, () -> camp.ground(10, 0, 0));
        CHECK.outOfBounds("ground(0, -1, 0)", camp, () -> camp.ground(0, -1, 0));
        CHECK.outOfBounds("ground(0, 10, 0)", camp, () -> camp.ground(0, 10, 0));
        CHECK.outOfBounds("ground(0, 0, -1)", camp, () -> camp.ground(0, 0, -1));
        CHECK.outOfBounds("ground(0, 0, 5)", camp, () -> camp.ground(0, 0, 5));
    }

    private static void mean() {
        TentCamp camp = new TentCamp();
        CHECK.due("mean()", camp.mean(), 5.0);
        camp.setGround(0, 0, 9, 8);
        CHECK.due("mean() with 503 in all", camp.mean(), 5.03);
        camp.setGround(9, 9, 9, 1);
        CHECK.due("mean() with 499 in all", camp.mean(), 4.99);
    }

    private static void meanAtItsEdges() {
        TentCamp camp = new TentCamp();
        for (int firmness = 1; firmness <= 9; firmness += 8) {
            for (int cell = 0; cell < 100; cell++) {
                camp.setGround(cell % 10, cell / 10, 0, firmness);
            }
            CHECK.due("mean() of " + firmness + " everywhere", camp.mean(), (double) firmness);
        }
        camp.setGround(3, 3, 30, 8);
        CHECK.due("mean() with 899 in all", camp.mean(), 8.99);
    }
}
