/** Promise 20: nights foreseen. */
final class ForeseeTest {
    private static final Check CHECK = new Check("ForeseeTest");

    public static void main(String[] args) {
        tellsWhatPassBrings();
        knowsTheGround();
        knowsTheFloors();
        knowsTheLastOnes();
        inAnEmptyCamp();
        refuses();
        CHECK.end();
    }

    /** Tents that fall, get wet and lose pegs one night after the other. */
    private static TentCamp lively() {
        TentCamp camp = new TentCamp();
        for (int peg = 0; peg < 5; peg++) {
            camp.drive(2 * peg, 3 + peg);
            camp.pitch(2 * peg, 4 + peg, 2 + peg);
            camp.tie(peg, peg);
        }
        for (int night = 0; night < 7; night++) {
            camp.setNight(night, night + 1, night % 2 * 2, 8 - night);
        }
        camp.setGround(0, 3, 20, 9);
        camp.pass(2);
        camp.raise(4);
        camp.ditch(6, 4);
        return camp;
    }

    private static void tellsWhatPassBrings() {
        for (int nights = 1; nights <= 30; nights++) {
            TentCamp camp = lively();
            TentCamp twin = lively();
            String ahead = "foresee(" + nights + ", ";
            int standing = camp.foresee(nights, 0);
            int dry = camp.foresee(nights, 1);
            int in = camp.foresee(nights, 2);
            CHECK.due(ahead + ") changes nothing", camp.digest(), twin.digest());
            twin.pass(nights);
            CHECK.due(ahead + "0)", standing, twin.count(4));
            CHECK.due(ahead + "1)", dry, twin.count(5));
            CHECK.due(ahead + "2)", in, twin.count(2));
        }
        TentCamp camp = new TentCamp();
        camp.drive(5, 4);
        camp.drive(0, 0);
        camp.pitch(5, 5, 5);
        camp.pitch(9, 0, 1);
        camp.tie(0, 0);
        camp.tie(1, 1);
        camp.setNight(1, 9, 3, 0);
        camp.setNight(2, 5, 0, 1);
        camp.setNight(3, 0, 0, 1);
        CHECK.due("foresee(1, 0)", camp.foresee(1, 0), 2);
        CHECK.due("foresee(2, 0)", camp.foresee(2, 0), 1);
        CHECK.due("foresee(2, 1)", camp.foresee(2, 1), 2);
        CHECK.due("foresee(3, 1)", camp.foresee(3, 1), 0);
        CHECK.due("foresee(3, 2)", camp.foresee(3, 2), 2);
    }

    /** Behind a wall water runs up to the highest row, where it softens the ground of the first cell. */
    private static void knowsTheGround() {
        TentCamp camp = new TentCamp();
        for (int y = 0; y < 10; y++) {
            camp.setGround(0, y, 20 + y, 5);
            camp.setGround(1, y, 30, 5);
        }
        camp.drive(0, 0);
        camp.pitch(0, 9, 5);
        camp.tie(0, 0);
        camp.setNight(0, 4, 0, 9);
        CHECK.due("foresee(7, 0)", camp.foresee(7, 0), 1);
        CHECK.due("foresee(8, 0)", camp.foresee(8, 0), 0);
        CHECK.due("ground(0, 0, 1) foreseen only", camp.ground(0, 0, 1), 5);
        camp.setGround(0, 0, 20, 8);
        CHECK.due("foresee(8, 0) on firm ground", camp.foresee(8, 0), 1);
        camp.ditch(0, 1);
        CHECK.due("foresee(30, 2) behind a ditch", camp.foresee(30, 2), 1);
        camp.ditch(0, 1);
        CHECK.due("foresee(30, 2) without the ditch", camp.foresee(30, 2), 0);
        CHECK.due("pass(7)", camp.pass(7), 0);
        CHECK.due("ground(0, 0, 1)", camp.ground(0, 0, 1), 7);
    }

    /** Floors that are wet now are wet then, also without rain; one that has been dried is dry then. */
    private static void knowsTheFloors() {
        TentCamp camp = new TentCamp();
        camp.pitch(3, 0, 1);
        camp.pitch(4, 5, 1);
        camp.pitch(5, 0, 1);
        camp.setNight(0, 0, 0, 9);
        camp.setNight(1, 1, 0, 0);
        CHECK.due("foresee(1, 1) with a flood of 54", camp.foresee(1, 1), 2);
        camp.pass(1);
        CHECK.due("foresee(1, 1) with one wet", camp.foresee(1, 1), 2);
        CHECK.due("foresee(6, 1) with one wet, and no rain", camp.foresee(6, 1), 2);
        camp.pass(1);
        CHECK.due("foresee(5, 1), all down without rain", camp.foresee(5, 1), 2);
        CHECK.due("foresee(6, 1), all down in rain", camp.foresee(6, 1), 0);
        camp.raise(1);
        CHECK.due("foresee(5, 1) with the wet one raised", camp.foresee(5, 1), 3);
        CHECK.due("foresee(6, 1), it stands in a flood of 54", camp.foresee(6, 1), 0);
        camp.raise(2);
        CHECK.due("foresee(6, 1) with one more that stands", camp.foresee(6, 1), 1);
        CHECK.due("count(5): nothing is changed", camp.count(5), 3);
    }

    /** The ground of the last cell, in which the last peg is, holds by its firmness and gets softer night by night. */
    private static void knowsTheLastOnes() {
        TentCamp camp = new TentCamp();
        for (int peg = 0; peg < 15; peg++) {
            camp.drive(peg % 10, peg / 10);
        }
        camp.drive(9, 9);
        for (int tent = 0; tent < 8; tent++) {
            camp.pitch(tent, 2, 4);
        }
        camp.tie(7, 15);
        camp.setNight(0, 0, 0, 9);
        camp.setNight(1, 4, 2, 0);
        CHECK.due("foresee(2, 0) with 16 of 16", camp.foresee(2, 0), 1);
        CHECK.due("foresee(2, 2) with 16 of 16", camp.foresee(2, 2), 16);
        CHECK.due("foresee(9, 0) with 16 of 12", camp.foresee(9, 0), 0);
        CHECK.due("foresee(9, 2) with 16 of 12", camp.foresee(9, 2), 15);
        camp.ditch(9, 8);
        CHECK.due("foresee(30, 2) behind a ditch", camp.foresee(30, 2), 16);
        camp.ditch(9, 8);
        camp.setGround(9, 9, 0, 9);
        CHECK.due("foresee(9, 2) with 16 of 28", camp.foresee(9, 2), 16);
        camp.setGround(9, 9, 9, 5);
        CHECK.due("foresee(9, 2) on a hill", camp.foresee(9, 2), 16);
        camp.setGround(9, 9, 0, 5);
        CHECK.due("pass(2)", camp.pass(2), 7);
        CHECK.due("pass(7)", camp.pass(7), 1);
        CHECK.due("peg(15, 2)", camp.peg(15, 2), 0);
        CHECK.due("ground(9, 9, 1)", camp.ground(9, 9, 1), 3);
        CHECK.due("foresee(1, 2) with it out", camp.foresee(1, 2), 15);
        camp.again(15);
        CHECK.due("foresee(1, 2) with it in again", camp.foresee(1, 2), 16);
    }

    private static void inAnEmptyCamp() {
        TentCamp camp = new TentCamp();
        for (int night = 0; night < 7; night++) {
            camp.setNight(night, 9, 3, 9);
        }
        for (int what = 0; what <= 2; what++) {
            CHECK.due("foresee(1, " + what + ") with nothing", camp.foresee(1, what), 0);
            CHECK.due("foresee(30, " + what + ") with nothing", camp.foresee(30, what), 0);
        }
        CHECK.due("count(0)", camp.count(0), 0);
        CHECK.due("mean()", camp.mean(), 5.0);
    }

    private static void refuses() {
        TentCamp camp = lively();
        CHECK.badArgument("foresee(0, 0)", camp, () -> camp.foresee(0, 0));
        CHECK.badArgument("foresee(-1, 0)", camp, () -> camp.foresee(-1, 0));
        CHECK.badArgument("foresee(31, 0)", camp, () -> camp.foresee(31, 0));
        CHECK.badArgument("foresee(31, 3)", camp, () -> camp.foresee(31, 3));
        CHECK.outOfBounds("foresee(1, -1)", camp, () -> camp.foresee(1, -1));
        CHECK.outOfBounds("foresee(30, 3)", camp, () -> camp.foresee(30, 3));
    }
}
