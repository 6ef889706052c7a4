/** Promises 7, 8, 9, 12 and 13: tents, their ropes, and what is counted. */
final class TentTest {
    private static final Check CHECK = new Check("TentTest");

    public static void main(String[] args) {
        pitch();
        pitchRefuses();
        pitchCountsTentsThatAreDown();
        raise();
        raiseAtTheEdges();
        tie();
        tieLooksAtNoneButItsOwn();
        tieRefuses();
        tent();
        count();
        CHECK.end();
    }

    private static void pitch() {
        TentCamp camp = new TentCamp();
        for (int tent = 0; tent < 8; tent++) {
            CHECK.due("pitch() of tent " + tent, camp.pitch(9, tent, tent + 1), tent);
        }
        CHECK.due("count(3)", camp.count(3), 8);
        CHECK.due("count(4)", camp.count(4), 8);
        CHECK.due("count(5)", camp.count(5), 8);
        CHECK.badState("pitch(0, 0, 1), the 9th", camp, () -> camp.pitch(0, 0, 1));
        CHECK.badArgument("pitch(0, 0, 0), the 9th", camp, () -> camp.pitch(0, 0, 0));
        CHECK.outOfBounds("pitch(10, 0, 0), the 9th", camp, () -> camp.pitch(10, 0, 0));
        CHECK.outOfBounds("pitch(0, -1, 1), the 9th", camp, () -> camp.pitch(0, -1, 1));
        CHECK.badArgument("pitch(9, 0, 10) where one is", camp, () -> camp.pitch(9, 0, 10));
        CHECK.due("tent(0, 2) of the least size", camp.tent(0, 2), 1);
        CHECK.due("tent(7, 2)", camp.tent(7, 2), 8);
    }

    private static void pitchRefuses() {
        TentCamp camp = new TentCamp();
        camp.drive(3, 6);
        CHECK.due("pitch(3, 6, 9) in the cell of a peg", camp.pitch(3, 6, 9), 0);
        CHECK.badState("pitch(3, 6, 9) once more", camp, () -> camp.pitch(3, 6, 9));
        CHECK.badArgument("pitch(3, 6, 10)", camp, () -> camp.pitch(3, 6, 10));
        CHECK.badArgument("pitch(0, 0, 0)", camp, () -> camp.pitch(0, 0, 0));
        CHECK.outOfBounds("pitch(-1, 0, 0)", camp, () -> camp.pitch(-1, 0, 0));
        CHECK.outOfBounds("pitch(10, 0, 1)", camp, () -> camp.pitch(10, 0, 1));
        CHECK.outOfBounds("pitch(0, -1, 1)", camp, () -> camp.pitch(0, -1, 1));
        CHECK.outOfBounds("pitch(0, 10, 1)", camp, () -> camp.pitch(0, 10, 1));
        CHECK.due("pitch(0, 0, 1)", camp.pitch(0, 0, 1), 1);
    }

    /** Tents in the lowest row that a storm has thrown down, as they have no ropes. */
    private static TentCamp withTentsDown(int tents) {
        TentCamp camp = new TentCamp();
        for (int tent = 0; tent < tents; tent++) {
            camp.pitch(tent, 9, 9);
        }
        camp.setNight(0, 1, 0, 0);
        camp.pass(1);
        return camp;
    }

    private static void pitchCountsTentsThatAreDown() {
        TentCamp seven = withTentsDown(7);
        CHECK.due("count(4) with 7 down", seven.count(4), 0);
        CHECK.badState("pitch(0, 9, 1) where tent 0 is down", seven, () -> seven.pitch(0, 9, 1));
        CHECK.badState("pitch(6, 9, 1) where tent 6 is down", seven, () -> seven.pitch(6, 9, 1));
        CHECK.due("pitch(7, 9, 9) beside 7 that are down", seven.pitch(7, 9, 9), 7);
        CHECK.due("count(4) with 7 down and 1 up", seven.count(4), 1);
        CHECK.badState("pitch(8, 9, 1) beside 8", seven, () -> seven.pitch(8, 9, 1));
        TentCamp eight = withTentsDown(8);
        CHECK.badState("pitch(8, 9, 1) beside 8 that are down", eight, () -> eight.pitch(8, 9, 1));
        CHECK.outOfBounds("raise(8)", eight, () -> eight.raise(8));
        CHECK.due("raise(7)", eight.raise(7), 0);
        CHECK.due("tent(7, 3) raised", eight.tent(7, 3), 1);
        CHECK.due("tent(6, 3) stays down", eight.tent(6, 3), 0);
    }

    private static void raiseAtTheEdges() {
        TentCamp camp = new TentCamp();
        CHECK.outOfBounds("raise(0) without tents", camp, () -> camp.raise(0));
        for (int peg = 0; peg < 7; peg++) {
            camp.drive(peg, 3);
        }
        camp.pitch(3, 1, 9);
        CHECK.badState("raise(0), just pitched", camp, () -> camp.raise(0));
        for (int peg = 0; peg < 6; peg++) {
            camp.tie(0, peg);
        }
        camp.setNight(0, 1, 0, 0);
        camp.setNight(1, 9, 2, 9);
        CHECK.due("pass(1) from above, where no peg is", camp.pass(1), 1);
        CHECK.due("tent(0, 4) down, but dry", camp.tent(0, 4), 0);
        CHECK.due("raise(0) with all six pegs in", camp.raise(0), 6);
        CHECK.due("pass(1) with 81 / 6 of 20 at each", camp.pass(1), 0);
        CHECK.due("tent(0, 4) standing in a flood of 18", camp.tent(0, 4), 1);
        CHECK.badState("raise(0), which stands with a wet floor", camp, () -> camp.raise(0));
        for (int peg = 0; peg < 6; peg++) {
            camp.setGround(peg, 3, 6, 1);
        }
        camp.setNight(2, 9, 2, 0);
        CHECK.due("pass(1) with 81 / 6 of 4 at each", camp.pass(1), 1);
        CHECK.due("raise(0) with all six pegs out", camp.raise(0), 0);
        CHECK.due("tent(0, 4) dried", camp.tent(0, 4), 0);
        CHECK.due("tent(0, 5) keeps its ropes", camp.tent(0, 5), 6);
        CHECK.due("count(2): the pegs stay out", camp.count(2), 1);
    }

    private static void raise() {
        TentCamp camp = new TentCamp();
        camp.drive(4, 2);
        camp.drive(4, 8);
        camp.pitch(4, 5, 9);
        camp.pitch(0, 0, 1);
        camp.tie(0, 0);
        camp.tie(0, 1);
        camp.setNight(0, 9, 0, 1);
        CHECK.badState("raise(0), which stands", camp, () -> camp.raise(0));
        CHECK.due("pass(1)", camp.pass(1), 2);
        CHECK.due("tent(0, 3) come down", camp.tent(0, 3), 0);
        CHECK.due("tent(0, 4) come down in rain", camp.tent(0, 4), 1);
        CHECK.badState("pitch(4, 5, 1) where one is down", camp, () -> camp.pitch(4, 5, 1));
        CHECK.due("raise(0) with one peg of two in", camp.raise(0), 1);
        CHECK.due("tent(0, 3) raised", camp.tent(0, 3), 1);
        CHECK.due("tent(0, 4) raised", camp.tent(0, 4), 0);
        CHECK.due("tent(0, 5) raised", camp.tent(0, 5), 2);
        CHECK.due("tent(1, 3) not raised", camp.tent(1, 3), 0);
        CHECK.due("tent(1, 4) not raised", camp.tent(1, 4), 1);
        CHECK.badState("raise(0) once more", camp, () -> camp.raise(0));
        CHECK.outOfBounds("raise(2)", camp, () -> camp.raise(2));
        CHECK.outOfBounds("raise(-1)", camp, () -> camp.raise(-1));
        CHECK.due("raise(1) without ropes", camp.raise(1), 0);
    }

    private static void tie() {
        TentCamp camp = new TentCamp();
        for (int peg = 0; peg < 8; peg++) {
            camp.drive(peg, 0);
        }
        camp.pitch(5, 5, 5);
        camp.pitch(6, 6, 6);
        for (int peg = 0; peg < 6; peg++) {
            CHECK.due("tie(0, " + peg + ")", camp.tie(0, peg), peg + 1);
        }
        CHECK.badState("tie(0, 6), the 7th", camp, () -> camp.tie(0, 6));
        CHECK.due("tie(1, 5)", camp.tie(1, 5), 1);
        CHECK.due("tie(0, 3) unties", camp.tie(0, 3), 5);
        CHECK.due("tie(0, 7)", camp.tie(0, 7), 6);
        CHECK.badState("tie(0, 3), the 7th", camp, () -> camp.tie(0, 3));
        CHECK.due("tie(0, 0) unties", camp.tie(0, 0), 5);
        CHECK.due("tent(0, 5)", camp.tent(0, 5), 5);
        CHECK.due("tent(1, 5)", camp.tent(1, 5), 1);
        CHECK.due("count(6)", camp.count(6), 6);
    }

    /** Ropes count whether their pegs are in or out, and whether the tent stands or not. */
    private static void tieLooksAtNoneButItsOwn() {
        TentCamp camp = new TentCamp();
        for (int peg = 0; peg < 8; peg++) {
            camp.drive(peg, 0);
            camp.setGround(peg, 0, 9, 1);
        }
        camp.pitch(5, 5, 9);
        camp.pitch(6, 5, 1);
        for (int peg = 0; peg < 5; peg++) {
            camp.tie(0, peg);
        }
        camp.setNight(0, 9, 0, 0);
        CHECK.due("pass(1)", camp.pass(1), 2);
        CHECK.due("tent(0, 6): all pegs are out", camp.tent(0, 6), 0);
        CHECK.due("tie(0, 5), the 6th, of a tent that is down", camp.tie(0, 5), 6);
        CHECK.badState("tie(0, 6), the 7th, beside pegs that are out", camp, () -> camp.tie(0, 6));
        CHECK.outOfBounds("tie(0, 8) of a tent with 6", camp, () -> camp.tie(0, 8));
        CHECK.outOfBounds("tie(0, -1) of a tent with 6", camp, () -> camp.tie(0, -1));
        CHECK.due("tie(1, 0) to a peg that is out", camp.tie(1, 0), 1);
        CHECK.due("tent(1, 5)", camp.tent(1, 5), 1);
        CHECK.due("tent(1, 6)", camp.tent(1, 6), 0);
        CHECK.due("peg(0, 4) out, with ropes of tents that are down", camp.peg(0, 4), 2);
        CHECK.due("tie(1, 0) unties it", camp.tie(1, 0), 0);
        for (int peg = 5; peg >= 0; peg--) {
            CHECK.due("tie(0, " + peg + ") unties", camp.tie(0, peg), peg);
        }
        CHECK.due("count(6) with all untied", camp.count(6), 0);
    }

    private static void tieRefuses() {
        TentCamp camp = new TentCamp();
        CHECK.outOfBounds("tie(0, 0) with nothing", camp, () -> camp.tie(0, 0));
        camp.drive(1, 1);
        CHECK.outOfBounds("tie(0, 0) without tents", camp, () -> camp.tie(0, 0));
        camp.pitch(2, 2, 2);
        CHECK.outOfBounds("tie(1, 0)", camp, () -> camp.tie(1, 0));
        CHECK.outOfBounds("tie(-1, 0)", camp, () -> camp.tie(-1, 0));
        CHECK.outOfBounds("tie(0, 1)", camp, () -> camp.tie(0, 1));
        CHECK.outOfBounds("tie(0, -1)", camp, () -> camp.tie(0, -1));
        TentCamp noPegs = new TentCamp();
        noPegs.pitch(2, 2, 2);
        CHECK.outOfBounds("tie(0, 0) without pegs", noPegs, () -> noPegs.tie(0, 0));
        CHECK.due("tie(0, 0)", camp.tie(0, 0), 1);
    }

    private static void tent() {
        TentCamp camp = new TentCamp();
        CHECK.outOfBounds("tent(0, 0) without tents", camp, () -> camp.tent(0, 0));
        camp.drive(2, 0);
        camp.drive(4, 0);
        camp.pitch(3, 7, 8);
        CHECK.due("tent(0, 5) without ropes", camp.tent(0, 5), 0);
        CHECK.due("tent(0, 6) without ropes", camp.tent(0, 6), 0);
        camp.tie(0, 0);
        camp.tie(0, 1);
        int[] due = {3, 7, 8, 1, 0, 2, 2};
        for (int what = 0; what < due.length; what++) {
            CHECK.due("tent(0, " + what + ")", camp.tent(0, what), due[what]);
        }
        CHECK.outOfBounds("tent(-1, 0)", camp, () -> camp.tent(-1, 0));
        CHECK.outOfBounds("tent(1, 0)", camp, () -> camp.tent(1, 0));
        CHECK.outOfBounds("tent(0, -1)", camp, () -> camp.tent(0, -1));
        CHECK.outOfBounds("tent(0, 7)", camp, () -> camp.tent(0, 7));
        camp.setNight(0, 9, 3, 1);
        camp.pass(1);
        int[] dueTorn = {3, 7, 8, 0, 1, 2, 1};
        for (int what = 0; what < dueTorn.length; what++) {
            CHECK.due("tent(0, " + what + ") behind a storm", camp.tent(0, what), dueTorn[what]);
        }
    }

    private static void count() {
        TentCamp camp = new TentCamp();
        camp.drive(2, 3);
        camp.drive(4, 3);
        camp.drive(0, 9);
        camp.pitch(3, 7, 9);
        camp.pitch(8, 1, 1);
        camp.tie(0, 0);
        camp.tie(0, 1);
        camp.tie(1, 0);
        camp.ditch(0, 0);
        camp.ditch(9, 9);
        camp.ditch(5, 5);
        camp.ditch(5, 5);
        camp.setNight(0, 9, 3, 2);
        CHECK.due("pass(9)", camp.pass(9), 2);
        camp.raise(1);
        int[] due = {9, 3, 2, 2, 1, 1, 3, 2};
        for (int what = 0; what < due.length; what++) {
            CHECK.due("count(" + what + ")", camp.count(what), due[what]);
        }
        CHECK.outOfBounds("count(-1)", camp, () -> camp.count(-1));
        CHECK.outOfBounds("count(8)", camp, () -> camp.count(8));
    }
}
