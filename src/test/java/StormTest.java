/** Promises 14, 15 and 16: what a storm would do. */
final class StormTest {
    private static final Check CHECK = new Check("StormTest");

    public static void main(String[] args) {
        holds();
        holdsByTheSideInAllCells();
        holdsOnlyPegsThatAreIn();
        holdsRefuses();
        stormRounds();
        stormPullsMoreThanHeld();
        stormPullIsCut();
        stormAddsThePulls();
        stormGoesOn();
        stormGoesOnToTheLastPeg();
        stormLeavesTheFallenOut();
        stormRefuses();
        bears();
        bearsFromEachSide();
        bearsRefuses();
        CHECK.end();
    }

    /** A tent at (5, 5), and pegs 0 to 8 row by row in the nine cells round it and in its own. */
    static TentCamp ringed() {
        TentCamp camp = new TentCamp();
        for (int peg = 0; peg < 9; peg++) {
            camp.drive(4 + peg % 3, 4 + peg / 3);
        }
        camp.pitch(5, 5, 3);
        return camp;
    }

    private static void holds() {
        boolean[][] due = {
            {true, true, true, false, false, false, false, false, false},
            {false, false, true, false, false, true, false, false, true},
            {false, false, false, false, false, false, true, true, true},
            {true, false, false, true, false, false, true, false, false},
        };
        TentCamp camp = ringed();
        for (int peg = 0; peg < 9; peg++) {
            camp.tie(0, peg);
            for (int direction = 0; direction < 4; direction++) {
                String call = "holds(0, 1, " + direction + ") by peg " + peg;
                CHECK.due(call, camp.holds(0, 1, direction), due[direction][peg] ? 1 : 0);
            }
            camp.tie(0, peg);
        }
        camp.tie(0, 0);
        camp.tie(0, 2);
        camp.tie(0, 3);
        CHECK.due("holds(0, 9, 0) by two", camp.holds(0, 9, 0), 2);
        CHECK.due("holds(0, 0, 0) by two", camp.holds(0, 0, 0), 2);
        CHECK.due("holds(0, 9, 1) by one", camp.holds(0, 9, 1), 1);
        CHECK.due("holds(0, 9, 2) by none", camp.holds(0, 9, 2), 0);
        CHECK.due("holds(0, 9, 3) by two", camp.holds(0, 9, 3), 2);
    }

    /** A tent in some cells, and a peg in each one; that in the tent's own cell is on no side. */
    private static void holdsByTheSideInAllCells() {
        int[] tentCells = {0, 9, 90, 99, 48, 84};
        for (int tentCell : tentCells) {
            for (int pegCell = 0; pegCell < 100; pegCell++) {
                TentCamp camp = new TentCamp();
                int x = pegCell % 10 - tentCell % 10;
                int y = pegCell / 10 - tentCell / 10;
                camp.pitch(tentCell % 10, tentCell / 10, 9);
                camp.drive(pegCell % 10, pegCell / 10);
                camp.tie(0, 0);
                boolean[] due = {y < 0, x > 0, y > 0, x < 0};
                for (int direction = 0; direction < 4; direction++) {
                    String call = "holds() from " + direction + ", tent in " + tentCell + ", peg in " + pegCell;
                    CHECK.due(call, camp.holds(0, 9, direction), due[direction] ? 1 : 0);
                }
            }
        }
    }

    private static void holdsOnlyPegsThatAreIn() {
        TentCamp camp = ringed();
        camp.tie(0, 0);
        camp.tie(0, 1);
        camp.tie(0, 7);
        camp.setGround(4, 4, 5, 1);
        camp.setNight(0, 6, 0, 0);
        camp.setNight(1, 6, 1, 0);
        camp.pass(1);
        CHECK.due("holds(0, 5, 0) with one of two torn out", camp.holds(0, 5, 0), 1);
        camp.pass(1);
        CHECK.due("tent(0, 3)", camp.tent(0, 3), 0);
        CHECK.due("holds(0, 5, 2) of a tent that is down", camp.holds(0, 5, 2), 1);
    }

    private static void holdsRefuses() {
        TentCamp camp = ringed();
        CHECK.due("holds(0, 5, 0) without ropes", camp.holds(0, 5, 0), 0);
        TentCamp noTents = new TentCamp();
        CHECK.outOfBounds("holds(0, 5, 0) without tents", noTents, () -> noTents.holds(0, 5, 0));
        CHECK.outOfBounds("holds(-1, 5, 0)", camp, () -> camp.holds(-1, 5, 0));
        CHECK.outOfBounds("holds(1, 5, 0)", camp, () -> camp.holds(1, 5, 0));
        CHECK.outOfBounds("holds(1, 10, 4)", camp, () -> camp.holds(1, 10, 4));
        CHECK.badArgument("holds(0, -1, 0)", camp, () -> camp.holds(0, -1, 0));
        CHECK.badArgument("holds(0, 10, 0)", camp, () -> camp.holds(0, 10, 0));
        CHECK.badArgument("holds(0, 5, -1)", camp, () -> camp.holds(0, 5, -1));
        CHECK.badArgument("holds(0, 5, 4)", camp, () -> camp.holds(0, 5, 4));
    }

    private static void storm(String when, TentCamp camp, int force, int direction, int... due) {
        long before = camp.digest();
        for (int what = 0; what <= 2; what++) {
            String call = when + ": storm(" + force + ", " + direction + ", " + what + ")";
            CHECK.due(call, camp.storm(force, direction, what), due[what]);
        }
        CHECK.due(when + ": nothing is changed", camp.digest(), before);
    }

    private static void stormRounds() {
        TentCamp camp = new TentCamp();
        storm("nothing there", camp, 0, 0, 0, 0, 0);
        storm("nothing there", camp, 1, 0, 0, 0, 1);
        storm("nothing there", camp, 9, 3, 0, 0, 1);
        camp.drive(0, 0);
        storm("a peg without ropes", camp, 9, 0, 0, 1, 1);
        camp.pitch(5, 5, 1);
        storm("a tent without ropes", camp, 0, 3, 1, 1, 0);
        storm("a tent without ropes", camp, 1, 3, 0, 1, 2);
    }

    private static void stormPullsMoreThanHeld() {
        TentCamp camp = new TentCamp();
        camp.drive(5, 4);
        camp.pitch(5, 5, 5);
        camp.tie(0, 0);
        storm("20 of 20", camp, 4, 0, 1, 1, 1);
        storm("25 of 20", camp, 5, 0, 0, 0, 3);
        storm("from the other side", camp, 1, 2, 0, 1, 2);
        storm("without force", camp, 0, 2, 1, 1, 0);
        camp.setGround(5, 4, 0, 9);
        storm("35 of 36", camp, 7, 0, 1, 1, 1);
        storm("40 of 36", camp, 8, 0, 0, 0, 3);
    }

    private static void stormPullIsCut() {
        TentCamp camp = new TentCamp();
        camp.drive(3, 4);
        camp.drive(5, 4);
        camp.pitch(5, 5, 7);
        camp.tie(0, 0);
        camp.tie(0, 1);
        storm("35 / 2 of 20", camp, 5, 0, 1, 2, 1);
        storm("42 / 2 of 20", camp, 6, 0, 0, 0, 3);
        camp.setGround(3, 4, 5, 4);
        camp.setGround(5, 4, 5, 4);
        storm("35 / 2 of 16", camp, 5, 0, 0, 0, 3);
        camp.drive(7, 4);
        camp.tie(0, 2);
        storm("49 / 3 of 16", camp, 7, 0, 1, 3, 1);
        storm("56 / 3 of 16, then 56 of 20", camp, 8, 0, 0, 0, 4);
    }

    private static void stormAddsThePulls() {
        TentCamp camp = new TentCamp();
        camp.drive(5, 4);
        camp.pitch(4, 5, 3);
        camp.pitch(6, 5, 2);
        camp.tie(0, 0);
        camp.tie(1, 0);
        storm("12 and 8 of 20", camp, 4, 0, 2, 1, 1);
        storm("15 and 10 of 20", camp, 5, 0, 0, 0, 3);
        storm("from the right only tent 0 pulls", camp, 6, 1, 1, 1, 2);
        storm("from the left only tent 1 pulls", camp, 9, 3, 1, 1, 2);
    }

    /** Tent 0 hangs at pegs 0 to 2, tent 1 at peg 2, tent 2 at peg 3; peg 0 and then peg 1 are the weakest. */
    private static void stormGoesOn() {
        TentCamp camp = new TentCamp();
        int[] firmness = {1, 2, 6, 5};
        for (int peg = 0; peg < 4; peg++) {
            camp.drive(2 * peg, 3);
            camp.setGround(2 * peg, 3, 5, firmness[peg]);
        }
        camp.pitch(2, 6, 6);
        camp.pitch(5, 6, 1);
        camp.pitch(6, 6, 4);
        camp.tie(0, 0);
        camp.tie(0, 1);
        camp.tie(0, 2);
        camp.tie(1, 2);
        camp.tie(2, 3);
        storm("4 at each of three", camp, 2, 0, 3, 4, 1);
        storm("peg 0, then peg 1", camp, 3, 0, 3, 2, 3);
        storm("all but peg 3, and tent 2", camp, 5, 0, 1, 1, 4);
        storm("all at once", camp, 6, 0, 0, 0, 4);
    }

    /** Tent t hangs at the pegs 2t, 2t + 1 and 2t + 2: with force 2 each peg is torn out behind the one before it. */
    private static TentCamp chain() {
        TentCamp camp = new TentCamp();
        for (int peg = 0; peg < 16; peg++) {
            camp.drive(peg % 10, peg / 10);
            camp.setGround(peg % 10, peg / 10, 9, peg % 2 == 1 ? 2 : 5);
        }
        camp.setGround(0, 0, 9, 1);
        camp.setGround(5, 1, 9, 3);
        for (int tent = 0; tent < 8; tent++) {
            camp.pitch(tent, 9, 9);
            for (int peg = 2 * tent; peg <= 2 * tent + 2 && peg < 16; peg++) {
                camp.tie(tent, peg);
            }
        }
        return camp;
    }

    private static void stormGoesOnToTheLastPeg() {
        TentCamp camp = chain();
        storm("the chain", camp, 0, 0, 8, 16, 0);
        storm("the chain", camp, 1, 0, 8, 16, 1);
        storm("the chain, peg by peg", camp, 2, 0, 0, 0, 18);
        CHECK.due("bears(0) of the chain", camp.bears(0), 1);
        camp.setGround(5, 1, 9, 5);
        storm("peg 15 with 18 of 20", camp, 2, 0, 1, 1, 17);
        camp.setGround(0, 0, 9, 2);
        storm("peg 0 with 6 of 8", camp, 2, 0, 8, 16, 1);
        CHECK.due("bears(0) with peg 0 on firmer ground", camp.bears(0), 2);
        camp.setGround(0, 0, 9, 1);
        camp.setGround(5, 1, 9, 3);
        camp.setNight(0, 2, 0, 0);
        CHECK.due("foresee(1, 2) of the chain", camp.foresee(1, 2), 0);
        CHECK.due("pass(1) of the chain", camp.pass(1), 8);
        CHECK.due("count(2) behind it", camp.count(2), 0);
    }

    private static void stormLeavesTheFallenOut() {
        TentCamp camp = new TentCamp();
        camp.drive(5, 4);
        camp.drive(0, 9);
        camp.pitch(4, 5, 5);
        camp.pitch(6, 5, 4);
        camp.tie(0, 1);
        camp.tie(1, 0);
        camp.setNight(0, 1, 0, 0);
        CHECK.due("pass(1)", camp.pass(1), 1);
        camp.tie(0, 0);
        storm("a fallen tent pulls no more", camp, 5, 0, 1, 2, 1);
        storm("and does not stand", camp, 0, 0, 1, 2, 0);
        camp.raise(0);
        storm("a raised one pulls again", camp, 5, 0, 0, 1, 3);
    }

    private static void stormRefuses() {
        TentCamp camp = ringed();
        CHECK.badArgument("storm(-1, 0, 0)", camp, () -> camp.storm(-1, 0, 0));
        CHECK.badArgument("storm(10, 0, 0)", camp, () -> camp.storm(10, 0, 0));
        CHECK.badArgument("storm(5, -1, 0)", camp, () -> camp.storm(5, -1, 0));
        CHECK.badArgument("storm(5, 4, 0)", camp, () -> camp.storm(5, 4, 0));
        CHECK.badArgument("storm(10, 0, 3)", camp, () -> camp.storm(10, 0, 3));
        CHECK.badArgument("storm(5, 4, 3)", camp, () -> camp.storm(5, 4, 3));
        CHECK.outOfBounds("storm(5, 0, -1)", camp, () -> camp.storm(5, 0, -1));
        CHECK.outOfBounds("storm(5, 0, 3)", camp, () -> camp.storm(5, 0, 3));
    }

    private static void bears() {
        TentCamp camp = new TentCamp();
        CHECK.due("bears(0) without tents", camp.bears(0), 9);
        camp.drive(5, 4);
        camp.drive(4, 5);
        camp.pitch(5, 5, 5);
        CHECK.due("bears(0) without ropes", camp.bears(0), 0);
        camp.tie(0, 0);
        camp.tie(0, 1);
        long before = camp.digest();
        CHECK.due("bears(0)", camp.bears(0), 4);
        CHECK.due("bears(1)", camp.bears(1), 0);
        CHECK.due("bears(2)", camp.bears(2), 0);
        CHECK.due("bears(3)", camp.bears(3), 4);
        CHECK.due("bears() changes nothing", camp.digest(), before);
        camp.pitch(6, 6, 1);
        CHECK.due("bears(0) with a tent without ropes", camp.bears(0), 0);
        camp.setNight(0, 1, 0, 0);
        camp.pass(1);
        CHECK.due("bears(0) with this tent down", camp.bears(0), 4);
        camp.setNight(1, 9, 1, 0);
        camp.pass(1);
        CHECK.due("bears(0) with all tents down", camp.bears(0), 9);
        TentCamp light = new TentCamp();
        light.drive(5, 4);
        light.pitch(5, 5, 2);
        light.tie(0, 0);
        CHECK.due("bears(0) of a light tent", light.bears(0), 9);
        TentCamp heavy = new TentCamp();
        heavy.drive(5, 4);
        heavy.setGround(5, 4, 5, 1);
        heavy.pitch(5, 5, 4);
        heavy.tie(0, 0);
        CHECK.due("bears(0) of a tent that stands 4 of 4", heavy.bears(0), 1);
    }

    /** A tent of size 9 whose pegs bear 0, 1, 2 and 4 from above, the right, below and the left. */
    private static void bearsFromEachSide() {
        TentCamp camp = new TentCamp();
        int[] cells = {45, 56, 65, 54};
        int[] firmness = {2, 3, 5, 9};
        camp.pitch(5, 5, 9);
        for (int peg = 0; peg < 4; peg++) {
            camp.drive(cells[peg] % 10, cells[peg] / 10);
            camp.setGround(cells[peg] % 10, cells[peg] / 10, 5, firmness[peg]);
            camp.tie(0, peg);
        }
        int[] due = {0, 1, 2, 4};
        for (int direction = 0; direction < 4; direction++) {
            CHECK.due("bears(" + direction + ") at one peg", camp.bears(direction), due[direction]);
        }
        camp.pitch(0, 0, 1);
        CHECK.due("bears(3) beside a tent without ropes", camp.bears(3), 0);
    }

    private static void bearsRefuses() {
        TentCamp camp = ringed();
        CHECK.badArgument("bears(-1)", camp, () -> camp.bears(-1));
        CHECK.badArgument("bears(4)", camp, () -> camp.bears(4));
    }
}
