/** Promise 18: which rope would help a tent. */
final class AdviseTest {
    private static final Check CHECK = new Check("AdviseTest");

    public static void main(String[] args) {
        picksTheBest();
        looksToEachSide();
        knowsTheOthers();
        letsTheOthersFall();
        neverUnties();
        hasNone();
        hasNoneAtSixRopes();
        hasNoneThatIsBetter();
        refuses();
        CHECK.end();
    }

    private static void advise(String when, TentCamp camp, int tent, int direction, int due) {
        long before = camp.digest();
        CHECK.due(when + ": advise(" + tent + ", " + direction + ")", camp.advise(tent, direction), due);
        CHECK.due(when + ": nothing is changed", camp.digest(), before);
    }

    private static void picksTheBest() {
        TentCamp camp = new TentCamp();
        int[] firmness = {3, 7, 8, 8};
        for (int peg = 0; peg < 4; peg++) {
            camp.drive(3 + peg, 2);
            camp.setGround(3 + peg, 2, 7, firmness[peg]);
        }
        camp.pitch(5, 5, 4);
        advise("7 and 8 by the pegs 1 and 2", camp, 0, 0, 2);
        advise("none is below", camp, 0, 2, -1);
        advise("peg 3 alone is at the right", camp, 0, 1, 3);
        camp.tie(0, 2);
        advise("any of two ropes bears 9, but that of peg 0", camp, 0, 0, 1);
        camp.tie(0, 1);
        advise("9 already", camp, 0, 0, -1);
        TentCamp even = new TentCamp();
        even.drive(1, 1);
        even.drive(2, 1);
        even.pitch(5, 5, 3);
        advise("of two as good", even, 0, 0, 0);
    }

    /** Peg 0 is in the cell of the tent, on no side of it; the others are above, right, below and left of it. */
    private static void looksToEachSide() {
        TentCamp camp = new TentCamp();
        camp.drive(5, 5);
        camp.drive(5, 4);
        camp.drive(6, 5);
        camp.drive(5, 6);
        camp.drive(4, 5);
        camp.pitch(5, 5, 9);
        for (int direction = 0; direction < 4; direction++) {
            advise("a peg at each side", camp, 0, direction, direction + 1);
        }
    }

    /** A heavy neighbour hangs at the firm peg 0, so that the soft peg 1 is better. */
    private static void knowsTheOthers() {
        TentCamp camp = new TentCamp();
        camp.drive(4, 2);
        camp.setGround(4, 2, 7, 9);
        camp.drive(6, 2);
        camp.setGround(6, 2, 7, 3);
        camp.pitch(4, 5, 9);
        camp.pitch(6, 5, 2);
        advise("for itself", camp, 1, 0, 0);
        camp.tie(0, 0);
        advise("beside the neighbour", camp, 1, 0, 1);
        camp.tie(0, 0);
        camp.tie(1, 1);
        advise("whether the others stand does not matter", camp, 1, 0, 0);
    }

    /** A tent without ropes comes down in every storm, and a heavy one at its own peg in most of them. */
    private static void letsTheOthersFall() {
        TentCamp camp = new TentCamp();
        camp.drive(5, 4);
        camp.drive(6, 4);
        camp.drive(9, 4);
        camp.pitch(5, 5, 3);
        camp.pitch(2, 5, 1);
        camp.pitch(9, 5, 9);
        camp.tie(0, 0);
        camp.tie(2, 2);
        CHECK.due("bears(0)", camp.bears(0), 0);
        CHECK.due("storm(6, 0, 0)", camp.storm(6, 0, 0), 1);
        advise("of 6 it gets 9 by peg 1", camp, 0, 0, 1);
        camp.tie(0, 1);
        advise("9 already, though the others fall", camp, 0, 0, -1);
        advise("of 2 it gets 3 by peg 0, and as much by peg 1", camp, 2, 0, 0);
        advise("of 0 it gets 8 by peg 0, and as much by peg 1", camp, 1, 0, 0);
    }

    /** Without its rope to peg 0, which it shares, the tent would bear 3 and not 2: but no rope may be untied. */
    private static void neverUnties() {
        TentCamp camp = new TentCamp();
        camp.drive(4, 2);
        camp.setGround(4, 2, 7, 2);
        camp.drive(6, 2);
        camp.pitch(4, 5, 4);
        camp.pitch(6, 5, 4);
        for (int tent = 0; tent < 2; tent++) {
            camp.tie(tent, 0);
            camp.tie(tent, 1);
        }
        CHECK.due("bears(0) of two at the same pegs", camp.bears(0), 2);
        advise("both pegs have a rope", camp, 0, 0, -1);
        camp.tie(0, 0);
        CHECK.due("storm(3, 0, 0) without the rope", camp.storm(3, 0, 0), 2);
        advise("the rope would make it less", camp, 0, 0, -1);
    }

    private static void hasNone() {
        TentCamp camp = StormTest.ringed();
        camp.setNight(0, 9, 0, 0);
        camp.tie(0, 1);
        camp.pass(1);
        advise("a tent that is down", camp, 0, 2, -1);
        camp.raise(0);
        camp.tie(0, 1);
        advise("a peg that is out does not help", camp, 0, 0, 0);
        for (int peg = 3; peg < 9; peg++) {
            camp.tie(0, peg);
        }
        advise("a tent with 6 ropes", camp, 0, 0, -1);
        camp.tie(0, 8);
        advise("a tent with 5 ropes", camp, 0, 0, 0);
    }

    /** Six ropes are six, also to pegs that are out, or on the other side. */
    private static void hasNoneAtSixRopes() {
        TentCamp camp = new TentCamp();
        for (int peg = 0; peg < 5; peg++) {
            camp.drive(peg, 0);
            camp.setGround(peg, 0, 9, 1);
        }
        camp.drive(0, 9);
        camp.drive(5, 0);
        camp.pitch(5, 5, 9);
        for (int peg = 0; peg < 5; peg++) {
            camp.tie(0, peg);
        }
        camp.setNight(0, 9, 0, 0);
        camp.pass(1);
        advise("down, with 5 ropes to pegs that are out", camp, 0, 0, -1);
        camp.raise(0);
        advise("raised, with 5 ropes to pegs that are out", camp, 0, 0, 6);
        camp.tie(0, 5);
        advise("a 6th rope to the other side", camp, 0, 0, -1);
        camp.tie(0, 0);
        advise("5 ropes again", camp, 0, 0, 6);
    }

    private static void hasNoneThatIsBetter() {
        TentCamp camp = new TentCamp();
        camp.pitch(5, 5, 9);
        advise("without pegs", camp, 0, 0, -1);
        camp.drive(5, 5);
        camp.drive(4, 6);
        advise("without a peg on this side", camp, 0, 0, -1);
        camp.drive(5, 4);
        camp.setGround(5, 4, 5, 2);
        advise("9 is more than 8", camp, 0, 0, -1);
        camp.setGround(5, 4, 5, 3);
        advise("9 is not more than 12", camp, 0, 0, 2);
        camp.tie(0, 2);
        camp.drive(4, 4);
        camp.setGround(4, 4, 5, 2);
        advise("18 / 2 is more than 8, so that peg 3 does not help", camp, 0, 0, -1);
        camp.setGround(4, 4, 5, 3);
        advise("18 / 2 is not more than 12", camp, 0, 0, 3);
        camp.tie(0, 3);
        advise("both tied", camp, 0, 0, -1);
    }

    private static void refuses() {
        TentCamp camp = StormTest.ringed();
        CHECK.outOfBounds("advise(-1, 0)", camp, () -> camp.advise(-1, 0));
        CHECK.outOfBounds("advise(1, 0)", camp, () -> camp.advise(1, 0));
        CHECK.outOfBounds("advise(1, 4)", camp, () -> camp.advise(1, 4));
        TentCamp noTents = new TentCamp();
        CHECK.outOfBounds("advise(0, 0) without tents", noTents, () -> noTents.advise(0, 0));
        CHECK.badArgument("advise(0, -1)", camp, () -> camp.advise(0, -1));
        CHECK.badArgument("advise(0, 4)", camp, () -> camp.advise(0, 4));
    }
}
