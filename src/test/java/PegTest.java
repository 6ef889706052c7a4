/** Promises 5, 6 and 11: pegs. */
final class PegTest {
    private static final Check CHECK = new Check("PegTest");

    public static void main(String[] args) {
        drive();
        driveRefuses();
        driveCountsPegsThatAreOut();
        again();
        againAtTheEdges();
        peg();
        CHECK.end();
    }

    private static void drive() {
        TentCamp camp = new TentCamp();
        for (int peg = 0; peg < 16; peg++) {
            CHECK.due("drive() of peg " + peg, camp.drive(peg % 10, 9 - peg / 10), peg);
        }
        CHECK.due("count(1)", camp.count(1), 16);
        CHECK.due("count(2)", camp.count(2), 16);
        CHECK.due("peg(15, 0)", camp.peg(15, 0), 5);
        CHECK.due("peg(15, 1)", camp.peg(15, 1), 8);
        CHECK.badState("drive(9, 0), the 17th", camp, () -> camp.drive(9, 0));
        CHECK.outOfBounds("drive(9, 10), the 17th", camp, () -> camp.drive(9, 10));
    }

    private static void driveRefuses() {
        TentCamp camp = new TentCamp();
        camp.pitch(4, 4, 2);
        CHECK.due("drive(4, 4) in the cell of a tent", camp.drive(4, 4), 0);
        CHECK.badState("drive(4, 4) once more", camp, () -> camp.drive(4, 4));
        CHECK.outOfBounds("drive(-1, 0)", camp, () -> camp.drive(-1, 0));
        CHECK.outOfBounds("drive(10, 0)", camp, () -> camp.drive(10, 0));
        CHECK.outOfBounds("drive(0, -1)", camp, () -> camp.drive(0, -1));
        CHECK.outOfBounds("drive(0, 10)", camp, () -> camp.drive(0, 10));
        CHECK.due("drive(0, 0)", camp.drive(0, 0), 1);
        CHECK.due("drive(9, 9)", camp.drive(9, 9), 2);
    }

    /** A tent of size 5 at (5, 5) whose one peg, at (5, 3), a storm from above has torn out. */
    private static TentCamp withTornPeg() {
        TentCamp camp = new TentCamp();
        camp.drive(5, 3);
        camp.drive(5, 7);
        camp.pitch(5, 5, 5);
        camp.tie(0, 0);
        camp.setNight(0, 5, 0, 0);
        camp.pass(1);
        return camp;
    }

    /** Pegs in the two highest rows that tents of size 9, far below and at two of them at most, have torn out. */
    private static TentCamp withPegsOut(int pegs) {
        TentCamp camp = new TentCamp();
        for (int peg = 0; peg < pegs; peg++) {
            camp.drive(peg % 10, peg / 10);
        }
        camp.setNight(0, 9, 0, 0);
        for (int tent = 0; tent < 8; tent++) {
            camp.pitch(tent, 9, 9);
        }
        for (int peg = 0; peg < pegs; peg++) {
            camp.tie(peg % 8, peg);
        }
        camp.pass(1);
        return camp;
    }

    private static void driveCountsPegsThatAreOut() {
        TentCamp fifteen = withPegsOut(15);
        CHECK.due("count(2) with 15 out", fifteen.count(2), 0);
        CHECK.badState("drive(0, 0) where peg 0 is out", fifteen, () -> fifteen.drive(0, 0));
        CHECK.badState("drive(4, 1) where peg 14 is out", fifteen, () -> fifteen.drive(4, 1));
        CHECK.due("drive(5, 1) beside 15 that are out", fifteen.drive(5, 1), 15);
        CHECK.due("count(2) with 15 out and 1 in", fifteen.count(2), 1);
        CHECK.badState("drive(6, 1) beside 16", fifteen, () -> fifteen.drive(6, 1));
        TentCamp sixteen = withPegsOut(16);
        CHECK.due("count(2) with 16 out", sixteen.count(2), 0);
        CHECK.badState("drive(6, 1) beside 16 that are out", sixteen, () -> sixteen.drive(6, 1));
        CHECK.outOfBounds("drive(-1, 1) beside 16", sixteen, () -> sixteen.drive(-1, 1));
        CHECK.outOfBounds("again(16)", sixteen, () -> sixteen.again(16));
        CHECK.due("again(15)", sixteen.again(15), 20);
        CHECK.badState("again(15) once more", sixteen, () -> sixteen.again(15));
        CHECK.due("count(2) with one in again", sixteen.count(2), 1);
        CHECK.due("peg(14, 2) stays out", sixteen.peg(14, 2), 0);
    }

    private static void againAtTheEdges() {
        TentCamp camp = new TentCamp();
        CHECK.outOfBounds("again(0) without pegs", camp, () -> camp.again(0));
        camp.drive(3, 3);
        CHECK.badState("again(0) that never was out", camp, () -> camp.again(0));
        TentCamp torn = withPegsOut(2);
        torn.setGround(0, 0, 9, 1);
        torn.setGround(1, 0, 9, 9);
        CHECK.due("peg(0, 3) out on soft ground", torn.peg(0, 3), 0);
        CHECK.due("again(0) on the softest ground", torn.again(0), 4);
        CHECK.due("peg(1, 3) out on firm ground", torn.peg(1, 3), 0);
        CHECK.due("again(1) on the firmest ground", torn.again(1), 36);
        CHECK.due("peg(0, 3)", torn.peg(0, 3), 4);
        CHECK.due("peg(1, 3)", torn.peg(1, 3), 36);
        CHECK.due("count(4): the tents stay down", torn.count(4), 0);
    }

    private static void again() {
        TentCamp camp = withTornPeg();
        CHECK.due("peg(0, 2) torn out", camp.peg(0, 2), 0);
        CHECK.due("peg(0, 3) torn out", camp.peg(0, 3), 0);
        CHECK.due("count(2)", camp.count(2), 1);
        CHECK.badState("drive(5, 3) where a peg is out", camp, () -> camp.drive(5, 3));
        CHECK.badState("again(1), which is in", camp, () -> camp.again(1));
        camp.setGround(5, 3, 6, 7);
        CHECK.due("again(0)", camp.again(0), 28);
        CHECK.due("peg(0, 2)", camp.peg(0, 2), 1);
        CHECK.due("peg(0, 3)", camp.peg(0, 3), 28);
        CHECK.due("peg(0, 4)", camp.peg(0, 4), 1);
        CHECK.due("count(2)", camp.count(2), 2);
        CHECK.badState("again(0) once more", camp, () -> camp.again(0));
        CHECK.outOfBounds("again(2)", camp, () -> camp.again(2));
        CHECK.outOfBounds("again(-1)", camp, () -> camp.again(-1));
        CHECK.outOfBounds("again(32)", camp, () -> camp.again(32));
    }

    private static void peg() {
        TentCamp camp = new TentCamp();
        CHECK.outOfBounds("peg(0, 0) without pegs", camp, () -> camp.peg(0, 0));
        camp.drive(2, 7);
        camp.setGround(2, 7, 0, 9);
        CHECK.due("peg(0, 0)", camp.peg(0, 0), 2);
        CHECK.due("peg(0, 1)", camp.peg(0, 1), 7);
        CHECK.due("peg(0, 2)", camp.peg(0, 2), 1);
        CHECK.due("peg(0, 3)", camp.peg(0, 3), 36);
        CHECK.due("peg(0, 4)", camp.peg(0, 4), 0);
        for (int tent = 0; tent < 3; tent++) {
            camp.pitch(tent, 0, 1);
            camp.tie(tent, 0);
        }
        CHECK.due("peg(0, 4) with 3 ropes", camp.peg(0, 4), 3);
        camp.tie(1, 0);
        CHECK.due("peg(0, 4) with 2 ropes", camp.peg(0, 4), 2);
        camp.tie(0, 0);
        camp.tie(2, 0);
        CHECK.due("peg(0, 4) with no rope left", camp.peg(0, 4), 0);
        CHECK.outOfBounds("peg(-1, 0)", camp, () -> camp.peg(-1, 0));
        CHECK.outOfBounds("peg(1, 0)", camp, () -> camp.peg(1, 0));
        CHECK.outOfBounds("peg(0, -1)", camp, () -> camp.peg(0, -1));
        CHECK.outOfBounds("peg(0, 5)", camp, () -> camp.peg(0, 5));
    }
}
