/** Promises 7, 8, 9, 12 and 13: tents, their ropes, and what is counted. */
final class TentTest {
    private static final Check CHECK = new Check("TentTest");

    public static void main(String[] args) {
        pitch();
        pitchRefuses();
        raise();
        tie();
        tieRefuses();
        tent();
        count();
        CHECK.end();
    }

    private static void pitch() {
        TentCamp camp = new TentCamp();
        for (int tent = 0; tent < 8; tent++) {
            CHECK.due("pitch() of tent " + tent, camp.pitch(9, tent, tent + 1), tent);
        }
        CHECK.due("count(3)", camp.count(3), 8);
        CHECK.due("count(4)", camp.count(4), 8);
        CHECK.due("count(5)", camp.count(5), 8);
        CHECK.badState("pitch(0, 0, 1), the 9th", camp, () -> camp.pitch(0, 0, 1));
        CHECK.badArgument("pitch(0, 0, 0), the 9th", camp, () -> camp.pitch(0, 0, 0));
        CHECK.outOfBounds("pitch(10, 0, 0), the 9th", camp, () -> camp.pitch(10, 0, 0));
    }

    private static void pitchRefuses() {
        TentCamp camp = new TentCamp();
        camp.drive(3, 6);
        CHECK.due("pitch(3, 6, 9) in the cell of a peg", camp.pitch(3, 6, 9), 0);
        CHECK.badState("pitch(3, 6, 9) once more", camp, () -> camp.pitch(3, 6, 9));
        CHECK.badArgument("pitch(3, 6, 10)", camp, () -> camp.pitch(3, 6, 10));
        CHECK.badArgument("pitch(0, 0, 0)", camp, () -> camp.pitch(0, 0, 0));
        CHECK.outOfBounds("pitch(-1, 0, 0)", camp, () -> camp.pitch(-1, 0, 0));
        CHECK.outOfBounds("pitch(10, 0, 1)", camp, () -> camp.pitch(10, 0, 1));
        CHECK.outOfBounds("pitch(0, -1, 1)", camp, () -> camp.pitch(0, -1, 1));
        CHECK.outOfBounds("pitch(0, 10, 1)", camp, () -> camp.pitch(0, 10, 1));
        CHECK.due("pitch(0, 0, 1)", camp.pitch(0, 0, 1), 1);
    }

    private static void raise() {
        TentCamp camp = new TentCamp();
        camp.drive(4, 2);
        camp.drive(4, 8);
        camp.pitch(4, 5, 9);
        camp.pitch(0, 0, 1);
        camp.tie(0, 0);
        camp.tie(0, 1);
        camp.setNight(0, 9, 0, 1);
        CHECK.badState("raise(0), which stands", camp, () -> camp.raise(0));
        CHECK.due("pass(1)", camp.pass(1), 2);
        CHECK.due("tent(0, 3) come down", camp.tent(0, 3), 0);
        CHECK.due("tent(0, 4) come down in rain", camp.tent(0, 4), 1);
        CHECK.badState("pitch(4, 5, 1) where one is down", camp, () -> camp.pitch(4, 5, 1));
        CHECK.due("raise(0) with one peg of two in", camp.raise(0), 1);
        CHECK.due("tent(0, 3) raised", camp.tent(0, 3), 1);
        CHECK.due("tent(0, 4) raised", camp.tent(0, 4), 0);
        CHECK.due("tent(0, 5) raised", camp.tent(0, 5), 2);
        CHECK.due("tent(1, 3) not raised", camp.tent(1, 3), 0);
        CHECK.due("tent(1, 4) not raised", camp.tent(1, 4), 1);
        CHECK.badState("raise(0) once more", camp, () -> camp.raise(0));
        CHECK.outOfBounds("raise(2)", camp, () -> camp.raise(2));
        CHECK.outOfBounds("raise(-1)", camp, () -> camp.raise(-1));
        CHECK.due("raise(1) without ropes", camp.raise(1), 0);
    }

    private static void tie() {
        TentCamp camp = new TentCamp();
        for (int peg = 0; peg < 8; peg++) {
            camp.drive(peg, 0);
        }
        camp.pitch(5, 5, 5);
        camp.pitch(6, 6, 6);
        for (int peg = 0; peg < 6; peg++) {
            CHECK.due("tie(0, " + peg + ")", camp.tie(0, peg), peg + 1);
        }
        CHECK.badState("tie(0, 6), the 7th", camp, () -> camp.tie(0, 6));
        CHECK.due("tie(1, 5)", camp.tie(1, 5), 1);
        CHECK.due("tie(0, 3) unties", camp.tie(0, 3), 5);
        CHECK.due("tie(0, 7)", camp.tie(0, 7), 6);
        CHECK.badState("tie(0, 3), the 7th", camp, () -> camp.tie(0, 3));
        CHECK.due("tie(0, 0) unties", camp.tie(0, 0), 5);
        CHECK.due("tent(0, 5)", camp.tent(0, 5), 5);
        CHECK.due("tent(1, 5)", camp.tent(1, 5), 1);
        CHECK.due("count(6)", camp.count(6), 6);
    }

    private static void tieRefuses() {
        TentCamp camp = new TentCamp();
        CHECK.outOfBounds("tie(0, 0) with nothing", camp, () -> camp.tie(0, 0));
        camp.drive(1, 1);
        CHECK.outOfBounds("tie(0, 0) without tents", camp, () -> camp.tie(0, 0));
        camp.pitch(2, 2, 2);
        CHECK.outOfBounds("tie(1, 0)", camp, () -> camp.tie(1, 0));
        CHECK.outOfBounds("tie(-1, 0)", camp, () -> camp.tie(-1, 0));
        CHECK.outOfBounds("tie(0, 1)", camp, () -> camp.tie(0, 1));
        CHECK.outOfBounds("tie(0, -1)", camp, () -> camp.tie(0, -1));
        CHECK.due("tie(0, 0)", camp.tie(0, 0), 1);
    }

    private static void tent() {
        TentCamp camp = new TentCamp();
        CHECK.outOfBounds("tent(0, 0) without tents", camp, () -> camp.tent(0, 0));
        camp.drive(2, 0);
        camp.drive(4, 0);
        camp.pitch(3, 7, 8);
        camp.tie(0, 0);
        camp.tie(0, 1);
        int[] due = {3, 7, 8, 1, 0, 2, 2};
        for (int what = 0; what < due.length; what++) {
            CHECK.due("tent(0, " + what + ")", camp.tent(0, what), due[what]);
        }
        CHECK.outOfBounds("tent(-1, 0)", camp, () -> camp.tent(-1, 0));
        CHECK.outOfBounds("tent(1, 0)", camp, () -> camp.tent(1, 0));
        CHECK.outOfBounds("tent(0, -1)", camp, () -> camp.tent(0, -1));
        CHECK.outOfBounds("tent(0, 7)", camp, () -> camp.tent(0, 7));
        camp.setNight(0, 9, 3, 1);
        camp.pass(1);
        int[] dueTorn = {3, 7, 8, 0, 1, 2, 1};
        for (int what = 0; what < dueTorn.length; what++) {
            CHECK.due("tent(0, " + what + ") behind a storm", camp.tent(0, what), dueTorn[what]);
        }
    }

    private static void count() {
        TentCamp camp = new TentCamp();
        camp.drive(2, 3);
        camp.drive(4, 3);
        camp.drive(0, 9);
        camp.pitch(3, 7, 9);
        camp.pitch(8, 1, 1);
        camp.tie(0, 0);
        camp.tie(0, 1);
        camp.tie(1, 0);
        camp.ditch(0, 0);
        camp.ditch(9, 9);
        camp.ditch(5, 5);
        camp.ditch(5, 5);
        camp.setNight(0, 9, 3, 2);
        CHECK.due("pass(9)", camp.pass(9), 2);
        camp.raise(1);
        int[] due = {9, 3, 2, 2, 1, 1, 3, 2};
        for (int what = 0; what < due.length; what++) {
            CHECK.due("count(" + what + ")", camp.count(what), due[what]);
        }
        CHECK.outOfBounds("count(-1)", camp, () -> camp.count(-1));
        CHECK.outOfBounds("count(8)", camp, () -> camp.count(8));
    }
}
