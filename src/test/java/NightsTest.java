/** Promise 19: nights that go by. */
final class NightsTest {
    private static final Check CHECK = new Check("NightsTest");

    public static void main(String[] args) {
        stormTearsDown();
        tableGoesByRemainder();
        eachNightHasItsRow();
        passAtItsEdges();
        passCountsOnlyWhatComesDown();
        floodWets();
        rainWetsTheFallen();
        floodSoftens();
        floodSoftensInAllCells();
        softensNoneBelowOne();
        softeningComesBehindTheStorm();
        passRefuses();
        CHECK.end();
    }

    private static void stormTearsDown() {
        TentCamp camp = new TentCamp();
        camp.drive(5, 4);
        camp.drive(1, 1);
        camp.pitch(5, 5, 5);
        camp.pitch(8, 8, 1);
        camp.tie(0, 0);
        camp.tie(1, 1);
        camp.setNight(0, 4, 0, 0);
        camp.setNight(1, 5, 0, 0);
        camp.setNight(2, 1, 2, 0);
        CHECK.due("pass(1) with force 4", camp.pass(1), 0);
        CHECK.due("count(4)", camp.count(4), 2);
        CHECK.due("pass(1) with force 5", camp.pass(1), 1);
        CHECK.due("count(0)", camp.count(0), 2);
        CHECK.due("tent(0, 3)", camp.tent(0, 3), 0);
        CHECK.due("tent(1, 3)", camp.tent(1, 3), 1);
        CHECK.due("peg(0, 2)", camp.peg(0, 2), 0);
        CHECK.due("peg(1, 2)", camp.peg(1, 2), 1);
        CHECK.due("pass(1) from below", camp.pass(1), 1);
        CHECK.due("count(5) without rain", camp.count(5), 2);
    }

    private static void tableGoesByRemainder() {
        TentCamp camp = new TentCamp();
        camp.pitch(5, 5, 5);
        camp.setNight(3, 1, 0, 0);
        CHECK.due("pass(3)", camp.pass(3), 0);
        CHECK.due("pass(7) over night 3 of the table", camp.pass(7), 1);
        camp.raise(0);
        CHECK.due("count(0)", camp.count(0), 10);
        CHECK.due("pass(1), the night 10", camp.pass(1), 1);
        camp.raise(0);
        CHECK.due("pass(6) up to the night 16", camp.pass(6), 0);
        CHECK.due("pass(30)", camp.pass(30), 1);
        CHECK.due("count(0)", camp.count(0), 47);
    }

    /** A storm in one row alone comes each seventh night, from the night of this number on. */
    private static void eachNightHasItsRow() {
        for (int row = 0; row < 7; row++) {
            TentCamp camp = new TentCamp();
            camp.setNight(row, 1, 0, 0);
            camp.pitch(5, 5, 1);
            for (int night = 0; night < 22; night++) {
                boolean due = night % 7 == row;
                String title = "the night " + night + " with a storm in row " + row;
                CHECK.due(title + ": foresee(1, 0)", camp.foresee(1, 0), due ? 0 : 1);
                CHECK.due(title + ": pass(1)", camp.pass(1), due ? 1 : 0);
                CHECK.due(title + ": count(0)", camp.count(0), night + 1);
                if (due) {
                    camp.raise(0);
                }
            }
        }
    }

    private static void passAtItsEdges() {
        TentCamp camp = new TentCamp();
        CHECK.due("pass(1) without tents", camp.pass(1), 0);
        CHECK.due("count(0) behind pass(1)", camp.count(0), 1);
        CHECK.due("pass(30) without tents", camp.pass(30), 0);
        CHECK.due("count(0) behind pass(30)", camp.count(0), 31);
        camp.pitch(5, 5, 1);
        CHECK.due("pass(30) without force or rain", camp.pass(30), 0);
        CHECK.due("tent(0, 3)", camp.tent(0, 3), 1);
        CHECK.due("tent(0, 4)", camp.tent(0, 4), 0);
        CHECK.due("foresee(29, 2), 20 of 20 in the night 22", withSofterPeg().foresee(29, 2), 1);
        CHECK.due("foresee(30, 2), 20 of 16 in the night 29", withSofterPeg().foresee(30, 2), 0);
        TentCamp spared = withSofterPeg();
        CHECK.due("pass(29)", spared.pass(29), 0);
        CHECK.due("peg(0, 3) behind pass(29)", spared.peg(0, 3), 16);
        CHECK.due("pass(1), the 30th night", spared.pass(1), 1);
        CHECK.due("pass(30)", withSofterPeg().pass(30), 1);
    }

    /** Rain of the nights 0, 7, 14, 21 and 28 softens the ground of a peg; a storm pulls at it in the nights behind. */
    private static TentCamp withSofterPeg() {
        TentCamp camp = new TentCamp();
        camp.drive(5, 9);
        camp.setGround(5, 9, 0, 9);
        camp.pitch(5, 0, 5);
        camp.tie(0, 0);
        camp.setNight(0, 0, 0, 2);
        camp.setNight(1, 4, 2, 0);
        return camp;
    }

    private static void passCountsOnlyWhatComesDown() {
        TentCamp camp = new TentCamp();
        camp.drive(5, 0);
        for (int tent = 0; tent < 8; tent++) {
            camp.pitch(tent, 5, 1);
        }
        camp.tie(0, 0);
        camp.setNight(0, 1, 0, 0);
        camp.setNight(1, 1, 2, 0);
        CHECK.due("pass(1), all but one", camp.pass(1), 7);
        CHECK.due("pass(1), the last one", camp.pass(1), 1);
        CHECK.due("pass(30) with all down", camp.pass(30), 0);
        camp.raise(3);
        camp.raise(0);
        CHECK.due("pass(30) with two raised", camp.pass(30), 2);
        CHECK.due("count(4)", camp.count(4), 0);
    }

    private static void floodWets() {
        TentCamp camp = new TentCamp();
        camp.pitch(2, 0, 1);
        camp.pitch(2, 1, 1);
        camp.setNight(0, 0, 0, 9);
        CHECK.due("pass(1)", camp.pass(1), 0);
        CHECK.due("tent(0, 4) with a flood of 9", camp.tent(0, 4), 0);
        CHECK.due("tent(1, 4) with a flood of 18", camp.tent(1, 4), 1);
        camp.pitch(4, 1, 1);
        camp.pitch(5, 1, 1);
        camp.ditch(5, 1);
        camp.pitch(6, 1, 1);
        camp.ditch(6, 0);
        camp.setNight(1, 0, 0, 5);
        camp.pass(1);
        CHECK.due("tent(2, 4) with a flood of 10", camp.tent(2, 4), 1);
        CHECK.due("tent(3, 4) in a ditch with 10", camp.tent(3, 4), 1);
        CHECK.due("tent(4, 4) below a ditch", camp.tent(4, 4), 0);
        camp.pass(1);
        CHECK.due("tent(1, 4) stays wet", camp.tent(1, 4), 1);
        CHECK.due("count(5)", camp.count(5), 2);
    }

    private static void rainWetsTheFallen() {
        TentCamp camp = new TentCamp();
        camp.drive(0, 0);
        camp.pitch(3, 0, 1);
        camp.pitch(4, 0, 1);
        camp.tie(1, 0);
        camp.setNight(0, 1, 3, 0);
        camp.setNight(2, 0, 0, 1);
        camp.setNight(3, 1, 1, 1);
        CHECK.due("pass(1)", camp.pass(1), 1);
        CHECK.due("tent(0, 4) down without rain", camp.tent(0, 4), 0);
        camp.pass(1);
        CHECK.due("tent(0, 4) still without rain", camp.tent(0, 4), 0);
        camp.pass(1);
        CHECK.due("tent(0, 4) down in rain", camp.tent(0, 4), 1);
        CHECK.due("tent(1, 4) standing in rain", camp.tent(1, 4), 0);
        CHECK.due("pass(1)", camp.pass(1), 1);
        CHECK.due("tent(1, 4) fallen ahead of the rain", camp.tent(1, 4), 1);
    }

    /** Of three columns that meet in (3, 9) so many cells run there as ditches leave. */
    private static TentCamp funnel(int ditchInTheRight) {
        TentCamp camp = new TentCamp();
        for (int y = 0; y < 10; y++) {
            for (int x = 0; x < 10; x++) {
                camp.setGround(x, y, 2 * (9 - y) + (x == 3 ? 0 : 1), 5);
            }
        }
        camp.ditch(2, 9);
        if (ditchInTheRight >= 0) {
            camp.ditch(4, ditchInTheRight);
        }
        camp.setNight(0, 0, 0, 1);
        return camp;
    }

    private static void floodSoftens() {
        TentCamp twenty = funnel(-1);
        CHECK.due("flood(1, 3, 9)", twenty.flood(1, 3, 9), 20);
        CHECK.due("ground(3, 9, 1) behind flood()", twenty.ground(3, 9, 1), 5);
        twenty.pass(1);
        CHECK.due("ground(3, 9, 1) with a flood of 20", twenty.ground(3, 9, 1), 4);
        CHECK.due("mean()", twenty.mean(), 4.99);
        TentCamp nineteen = funnel(0);
        CHECK.due("flood(1, 3, 9)", nineteen.flood(1, 3, 9), 19);
        nineteen.pass(1);
        CHECK.due("ground(3, 9, 1) with a flood of 19", nineteen.ground(3, 9, 1), 5);
        nineteen.setNight(1, 0, 0, 3);
        nineteen.ditch(3, 9);
        nineteen.pass(1);
        CHECK.due("ground(3, 9, 1), a ditch with 57", nineteen.ground(3, 9, 1), 4);
        TentCamp soaked = new TentCamp();
        soaked.setNight(0, 0, 0, 9);
        for (int firmness = 4; firmness >= 0; firmness--) {
            soaked.pass(7);
            CHECK.due("ground(6, 9, 1)", soaked.ground(6, 9, 1), Math.max(firmness, 1));
            CHECK.due("ground(6, 1, 1)", soaked.ground(6, 1, 1), 5);
        }
    }

    /** Each cell in its turn is the pit that all water runs to. */
    private static void floodSoftensInAllCells() {
        for (int pit = 0; pit < 100; pit++) {
            TentCamp camp = new TentCamp();
            for (int cell = 0; cell < 100; cell++) {
                int away = Math.abs(cell % 10 - pit % 10) + Math.abs(cell / 10 - pit / 10);
                camp.setGround(cell % 10, cell / 10, away, 5);
            }
            camp.setNight(0, 0, 0, 1);
            camp.pass(1);
            CHECK.due("ground(), the pit " + pit, camp.ground(pit % 10, pit / 10, 1), 4);
        }
    }

    private static void softensNoneBelowOne() {
        TentCamp camp = new TentCamp();
        camp.setGround(4, 9, 0, 1);
        camp.setGround(5, 9, 0, 2);
        camp.setGround(6, 9, 0, 3);
        for (int night = 0; night < 7; night++) {
            camp.setNight(night, 0, 0, 2);
        }
        CHECK.due("flood(2, 4, 9)", camp.flood(2, 4, 9), 20);
        camp.pass(1);
        CHECK.due("ground(4, 9, 1) stays 1", camp.ground(4, 9, 1), 1);
        CHECK.due("ground(5, 9, 1) from 2", camp.ground(5, 9, 1), 1);
        CHECK.due("ground(6, 9, 1) from 3", camp.ground(6, 9, 1), 2);
        CHECK.due("ground(7, 9, 1) from 5", camp.ground(7, 9, 1), 4);
        CHECK.due("ground(7, 8, 1) with a flood of 18", camp.ground(7, 8, 1), 5);
        camp.pass(30);
        for (int x = 0; x < 10; x++) {
            CHECK.due("ground(" + x + ", 9, 1) 31 nights on", camp.ground(x, 9, 1), 1);
            CHECK.due("ground(" + x + ", 8, 1) 31 nights on", camp.ground(x, 8, 1), 5);
        }
        CHECK.due("mean() 31 nights on", camp.mean(), 4.6);
    }

    private static void softeningComesBehindTheStorm() {
        TentCamp camp = new TentCamp();
        camp.drive(5, 5);
        camp.pitch(5, 0, 5);
        camp.tie(0, 0);
        camp.setNight(0, 4, 2, 9);
        CHECK.due("pass(1) with 20 of 20", camp.pass(1), 0);
        CHECK.due("peg(0, 3) softened", camp.peg(0, 3), 16);
        CHECK.due("pass(7) with 20 of 16", camp.pass(7), 1);
        CHECK.due("count(2)", camp.count(2), 0);
    }

    private static void passRefuses() {
        TentCamp camp = new TentCamp();
        camp.pitch(5, 5, 5);
        camp.setNight(0, 9, 0, 9);
        CHECK.badArgument("pass(0)", camp, () -> camp.pass(0));
        CHECK.badArgument("pass(-1)", camp, () -> camp.pass(-1));
        CHECK.badArgument("pass(31)", camp, () -> camp.pass(31));
        CHECK.due("pass(30)", camp.pass(30), 1);
    }
}
