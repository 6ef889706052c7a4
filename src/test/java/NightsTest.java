/** Promises 19 and 20: nights that go by, and nights foreseen. */
final class NightsTest {
    private static final Check CHECK = new Check("NightsTest");

    public static void main(String[] args) {
        stormTearsDown();
        tableGoesByRemainder();
        floodWets();
        rainWetsTheFallen();
        floodSoftens();
        softeningComesBehindTheStorm();
        passRefuses();
        foresee();
        foreseeKnowsTheGround();
        foreseeRefuses();
        CHECK.end();
    }

    private static void stormTearsDown() {
        TentCamp camp = new TentCamp();
        camp.drive(5, 4);
        camp.drive(1, 1);
        camp.pitch(5, 5, 5);
        camp.pitch(8, 8, 1);
        camp.tie(0, 0);
        camp.tie(1, 1);
        camp.setNight(0, 4, 0, 0);
        camp.setNight(1, 5, 0, 0);
        camp.setNight(2, 1, 2, 0);
        CHECK.due("pass(1) with force 4", camp.pass(1), 0);
        CHECK.due("count(4)", camp.count(4), 2);
        CHECK.due("pass(1) with force 5", camp.pass(1), 1);
        CHECK.due("count(0)", camp.count(0), 2);
        CHECK.due("tent(0, 3)", camp.tent(0, 3), 0);
        CHECK.due("tent(1, 3)", camp.tent(1, 3), 1);
        CHECK.due("peg(0, 2)", camp.peg(0, 2), 0);
        CHECK.due("peg(1, 2)", camp.peg(1, 2), 1);
        CHECK.due("pass(1) from below", camp.pass(1), 1);
        CHECK.due("count(5) without rain", camp.count(5), 2);
    }

    private static void tableGoesByRemainder() {
        TentCamp camp = new TentCamp();
        camp.pitch(5, 5, 5);
        camp.setNight(3, 1, 0, 0);
        CHECK.due("pass(3)", camp.pass(3), 0);
        CHECK.due("pass(7) over night 3 of the table", camp.pass(7), 1);
        camp.raise(0);
        CHECK.due("count(0)", camp.count(0), 10);
        CHECK.due("pass(1), the night 10", camp.pass(1), 1);
        camp.raise(0);
        CHECK.due("pass(6) up to the night 16", camp.pass(6), 0);
        CHECK.due("pass(30)", camp.pass(30), 1);
        CHECK.due("count(0)", camp.count(0), 47);
    }

    private static void floodWets() {
        TentCamp camp = new TentCamp();
        camp.pitch(2, 0, 1);
        camp.pitch(2, 1, 1);
        camp.setNight(0, 0, 0, 9);
        CHECK.due("pass(1)", camp.pass(1), 0);
        CHECK.due("tent(0, 4) with a flood of 9", camp.tent(0, 4), 0);
        CHECK.due("tent(1, 4) with a flood of 18", camp.tent(1, 4), 1);
        camp.pitch(4, 1, 1);
        camp.pitch(5, 1, 1);
        camp.ditch(5, 1);
        camp.pitch(6, 1, 1);
        camp.ditch(6, 0);
        camp.setNight(1, 0, 0, 5);
        camp.pass(1);
        CHECK.due("tent(2, 4) with a flood of 10", camp.tent(2, 4), 1);
        CHECK.due("tent(3, 4) in a ditch with 10", camp.tent(3, 4), 1);
        CHECK.due("tent(4, 4) below a ditch", camp.tent(4, 4), 0);
        camp.pass(1);
        CHECK.due("tent(1, 4) stays wet", camp.tent(1, 4), 1);
        CHECK.due("count(5)", camp.count(5), 2);
    }

    private static void rainWetsTheFallen() {
        TentCamp camp = new TentCamp();
        camp.drive(0, 0);
        camp.pitch(3, 0, 1);
        camp.pitch(4, 0, 1);
        camp.tie(1, 0);
        camp.setNight(0, 1, 3, 0);
        camp.setNight(2, 0, 0, 1);
        camp.setNight(3, 1, 1, 1);
        CHECK.due("pass(1)", camp.pass(1), 1);
        CHECK.due("tent(0, 4) down without rain", camp.tent(0, 4), 0);
        camp.pass(1);
        CHECK.due("tent(0, 4) still without rain", camp.tent(0, 4), 0);
        camp.pass(1);
        CHECK.due("tent(0, 4) down in rain", camp.tent(0, 4), 1);
        CHECK.due("tent(1, 4) standing in rain", camp.tent(1, 4), 0);
        CHECK.due("pass(1)", camp.pass(1), 1);
        CHECK.due("tent(1, 4) fallen ahead of the rain", camp.tent(1, 4), 1);
    }

    /** Of three columns that meet in (3, 9) so many cells run there as ditches leave. */
    private static TentCamp funnel(int ditchInTheRight) {
        TentCamp camp = new TentCamp();
        for (int y = 0; y < 10; y++) {
            for (int x = 0; x < 10; x++) {
                camp.setGround(x, y, 2 * (9 - y) + (x == 3 ? 0 : 1), 5);
            }
        }
        camp.ditch(2, 9);
        if (ditchInTheRight >= 0) {
            camp.ditch(4, ditchInTheRight);
        }
        camp.setNight(0, 0, 0, 1);
        return camp;
    }

    private static void floodSoftens() {
        TentCamp twenty = funnel(-1);
        CHECK.due("flood(1, 3, 9)", twenty.flood(1, 3, 9), 20);
        CHECK.due("ground(3, 9, 1) behind flood()", twenty.ground(3, 9, 1), 5);
        twenty.pass(1);
        CHECK.due("ground(3, 9, 1) with a flood of 20", twenty.ground(3, 9, 1), 4);
        CHECK.due("mean()", twenty.mean(), 4.99);
        TentCamp nineteen = funnel(0);
        CHECK.due("flood(1, 3, 9)", nineteen.flood(1, 3, 9), 19);
        nineteen.pass(1);
        CHECK.due("ground(3, 9, 1) with a flood of 19", nineteen.ground(3, 9, 1), 5);
        nineteen.setNight(1, 0, 0, 3);
        nineteen.ditch(3, 9);
        nineteen.pass(1);
        CHECK.due("ground(3, 9, 1), a ditch with 57", nineteen.ground(3, 9, 1), 4);
        TentCamp soaked = new TentCamp();
        soaked.setNight(0, 0, 0, 9);
        for (int firmness = 4; firmness >= 0; firmness--) {
            soaked.pass(7);
            CHECK.due("ground(6, 9, 1)", soaked.ground(6, 9, 1), Math.max(firmness, 1));
            CHECK.due("ground(6, 1, 1)", soaked.ground(6, 1, 1), 5);
        }
    }

    private static void softeningComesBehindTheStorm() {
        TentCamp camp = new TentCamp();
        camp.drive(5, 5);
        camp.pitch(5, 0, 5);
        camp.tie(0, 0);
        camp.setNight(0, 4, 2, 9);
        CHECK.due("pass(1) with 20 of 20", camp.pass(1), 0);
        CHECK.due("peg(0, 3) softened", camp.peg(0, 3), 16);
        CHECK.due("pass(7) with 20 of 16", camp.pass(7), 1);
        CHECK.due("count(2)", camp.count(2), 0);
    }

    private static void passRefuses() {
        TentCamp camp = new TentCamp();
        camp.pitch(5, 5, 5);
        camp.setNight(0, 9, 0, 9);
        CHECK.badArgument("pass(0)", camp, () -> camp.pass(0));
        CHECK.badArgument("pass(-1)", camp, () -> camp.pass(-1));
        CHECK.badArgument("pass(31)", camp, () -> camp.pass(31));
        CHECK.due("pass(30)", camp.pass(30), 1);
    }

    /** Tents that fall, get wet and lose pegs one night after the other. */
    private static TentCamp lively() {
        TentCamp camp = new TentCamp();
        for (int peg = 0; peg < 5; peg++) {
            camp.drive(2 * peg, 3 + peg);
            camp.pitch(2 * peg, 4 + peg, 2 + peg);
            camp.tie(peg, peg);
        }
        for (int night = 0; night < 7; night++) {
            camp.setNight(night, night + 1, night % 2 * 2, 8 - night);
        }
        camp.setGround(0, 3, 20, 9);
        camp.pass(2);
        camp.raise(4);
        camp.ditch(6, 4);
        return camp;
    }

    private static void foresee() {
        for (int nights = 1; nights <= 30; nights++) {
            TentCamp camp = lively();
            TentCamp twin = lively();
            String ahead = "foresee(" + nights + ", ";
            int standing = camp.foresee(nights, 0);
            int dry = camp.foresee(nights, 1);
            int in = camp.foresee(nights, 2);
            CHECK.due(ahead + ") changes nothing", camp.digest(), twin.digest());
            twin.pass(nights);
            CHECK.due(ahead + "0)", standing, twin.count(4));
            CHECK.due(ahead + "1)", dry, twin.count(5));
            CHECK.due(ahead + "2)", in, twin.count(2));
        }
        TentCamp camp = new TentCamp();
        camp.drive(5, 4);
        camp.drive(0, 0);
        camp.pitch(5, 5, 5);
        camp.pitch(9, 0, 1);
        camp.tie(0, 0);
        camp.tie(1, 1);
        camp.setNight(1, 9, 3, 0);
        camp.setNight(2, 5, 0, 1);
        camp.setNight(3, 0, 0, 1);
        CHECK.due("foresee(1, 0)", camp.foresee(1, 0), 2);
        CHECK.due("foresee(2, 0)", camp.foresee(2, 0), 1);
        CHECK.due("foresee(2, 1)", camp.foresee(2, 1), 2);
        CHECK.due("foresee(3, 1)", camp.foresee(3, 1), 0);
        CHECK.due("foresee(3, 2)", camp.foresee(3, 2), 2);
    }

    /** Behind a wall water runs up to the highest row, where it softens the ground of the first cell. */
    private static void foreseeKnowsTheGround() {
        TentCamp camp = new TentCamp();
        for (int y = 0; y < 10; y++) {
            camp.setGround(0, y, 20 + y, 5);
            camp.setGround(1, y, 30, 5);
        }
        camp.drive(0, 0);
        camp.pitch(0, 9, 5);
        camp.tie(0, 0);
        camp.setNight(0, 4, 0, 9);
        CHECK.due("foresee(7, 0)", camp.foresee(7, 0), 1);
        CHECK.due("foresee(8, 0)", camp.foresee(8, 0), 0);
        CHECK.due("ground(0, 0, 1) foreseen only", camp.ground(0, 0, 1), 5);
        camp.setGround(0, 0, 20, 8);
        CHECK.due("foresee(8, 0) on firm ground", camp.foresee(8, 0), 1);
        camp.ditch(0, 1);
        CHECK.due("foresee(30, 2) behind a ditch", camp.foresee(30, 2), 1);
        camp.ditch(0, 1);
        CHECK.due("foresee(30, 2) without the ditch", camp.foresee(30, 2), 0);
        CHECK.due("pass(7)", camp.pass(7), 0);
        CHECK.due("ground(0, 0, 1)", camp.ground(0, 0, 1), 7);
    }

    private static void foreseeRefuses() {
        TentCamp camp = lively();
        CHECK.badArgument("foresee(0, 0)", camp, () -> camp.foresee(0, 0));
        CHECK.badArgument("foresee(-1, 0)", camp, () -> camp.foresee(-1, 0));
        CHECK.badArgument("foresee(31, 0)", camp, () -> camp.foresee(31, 0));
        CHECK.badArgument("foresee(31, 3)", camp, () -> camp.foresee(31, 3));
        CHECK.outOfBounds("foresee(1, -1)", camp, () -> camp.foresee(1, -1));
        CHECK.outOfBounds("foresee(30, 3)", camp, () -> camp.foresee(30, 3));
    }
}
