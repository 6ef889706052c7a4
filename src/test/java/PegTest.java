/** Promises 5, 6 and 11: pegs. */
final class PegTest {
    private static final Check CHECK = new Check("PegTest");

    public static void main(String[] args) {
        drive();
        driveRefuses();
        again();
        peg();
        CHECK.end();
    }

    private static void drive() {
        TentCamp camp = new TentCamp();
        for (int peg = 0; peg < 16; peg++) {
            CHECK.due("drive() of peg " + peg, camp.drive(peg % 10, 9 - peg / 10), peg);
        }
        CHECK.due("count(1)", camp.count(1), 16);
        CHECK.due("count(2)", camp.count(2), 16);
        CHECK.due("peg(15, 0)", camp.peg(15, 0), 5);
        CHECK.due("peg(15, 1)", camp.peg(15, 1), 8);
        CHECK.badState("drive(9, 0), the 17th", camp, () -> camp.drive(9, 0));
        CHECK.outOfBounds("drive(9, 10), the 17th", camp, () -> camp.drive(9, 10));
    }

    private static void driveRefuses() {
        TentCamp camp = new TentCamp();
        camp.pitch(4, 4, 2);
        CHECK.due("drive(4, 4) in the cell of a tent", camp.drive(4, 4), 0);
        CHECK.badState("drive(4, 4) once more", camp, () -> camp.drive(4, 4));
        CHECK.outOfBounds("drive(-1, 0)", camp, () -> camp.drive(-1, 0));
        CHECK.outOfBounds("drive(10, 0)", camp, () -> camp.drive(10, 0));
        CHECK.outOfBounds("drive(0, -1)", camp, () -> camp.drive(0, -1));
        CHECK.outOfBounds("drive(0, 10)", camp, () -> camp.drive(0, 10));
        CHECK.due("drive(0, 0)", camp.drive(0, 0), 1);
        CHECK.due("drive(9, 9)", camp.drive(9, 9), 2);
    }

    /** A tent of size 5 at (5, 5) whose one peg, at (5, 3), a storm from above has torn out. */
    private static TentCamp withTornPeg() {
        TentCamp camp = new TentCamp();
        camp.drive(5, 3);
        camp.drive(5, 7);
        camp.pitch(5, 5, 5);
        camp.tie(0, 0);
        camp.setNight(0, 5, 0, 0);
        camp.pass(1);
        return camp;
    }

    private static void again() {
        TentCamp camp = withTornPeg();
        CHECK.due("peg(0, 2) torn out", camp.peg(0, 2), 0);
        CHECK.due("peg(0, 3) torn out", camp.peg(0, 3), 0);
        CHECK.due("count(2)", camp.count(2), 1);
        CHECK.badState("drive(5, 3) where a peg is out", camp, () -> camp.drive(5, 3));
        CHECK.badState("again(1), which is in", camp, () -> camp.again(1));
        camp.setGround(5, 3, 6, 7);
        CHECK.due("again(0)", camp.again(0), 28);
        CHECK.due("peg(0, 2)", camp.peg(0, 2), 1);
        CHECK.due("peg(0, 3)", camp.peg(0, 3), 28);
        CHECK.due("peg(0, 4)", camp.peg(0, 4), 1);
        CHECK.due("count(2)", camp.count(2), 2);
        CHECK.badState("again(0) once more", camp, () -> camp.again(0));
        CHECK.outOfBounds("again(2)", camp, () -> camp.again(2));
        CHECK.outOfBounds("again(-1)", camp, () -> camp.again(-1));
        CHECK.outOfBounds("again(32)", camp, () -> camp.again(32));
    }

    private static void peg() {
        TentCamp camp = new TentCamp();
        CHECK.outOfBounds("peg(0, 0) without pegs", camp, () -> camp.peg(0, 0));
        camp.drive(2, 7);
        camp.setGround(2, 7, 0, 9);
        CHECK.due("peg(0, 0)", camp.peg(0, 0), 2);
        CHECK.due("peg(0, 1)", camp.peg(0, 1), 7);
        CHECK.due("peg(0, 2)", camp.peg(0, 2), 1);
        CHECK.due("peg(0, 3)", camp.peg(0, 3), 36);
        CHECK.due("peg(0, 4)", camp.peg(0, 4), 0);
        for (int tent = 0; tent < 3; tent++) {
            camp.pitch(tent, 0, 1);
            camp.tie(tent, 0);
        }
        CHECK.due("peg(0, 4) with 3 ropes", camp.peg(0, 4), 3);
        camp.tie(1, 0);
        CHECK.due("peg(0, 4) with 2 ropes", camp.peg(0, 4), 2);
        CHECK.outOfBounds("peg(-1, 0)", camp, () -> camp.peg(-1, 0));
        CHECK.outOfBounds("peg(1, 0)", camp, () -> camp.peg(1, 0));
        CHECK.outOfBounds("peg(0, -1)", camp, () -> camp.peg(0, -1));
        CHECK.outOfBounds("peg(0, 5)", camp, () -> camp.peg(0, 5));
    }
}
