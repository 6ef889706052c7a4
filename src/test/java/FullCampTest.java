/** Promises 11 to 22 with as many pegs and tents as there can be: the last ones count as the first do. */
final class FullCampTest {
    private static final Check CHECK = new Check("FullCampTest");

    public static void main(String[] args) {
        asked();
        advised();
        nights();
        CHECK.end();
    }

    /** Tents of size 9 in the lowest row, tent t at the pegs 2t and 2t + 1 in the two highest rows. */
    private static TentCamp full() {
        TentCamp camp = new TentCamp();
        for (int peg = 0; peg < 16; peg++) {
            camp.drive(peg % 10, peg / 10);
        }
        for (int tent = 0; tent < 8; tent++) {
            camp.pitch(tent, 9, 9);
            camp.tie(tent, 2 * tent);
            camp.tie(tent, 2 * tent + 1);
        }
        return camp;
    }

    private static void asked() {
        TentCamp camp = full();
        long before = camp.digest();
        CHECK.due("count(6)", camp.count(6), 16);
        for (int peg = 0; peg < 16; peg++) {
            CHECK.due("peg(" + peg + ", 4)", camp.peg(peg, 4), 1);
            CHECK.due("ground() at peg " + peg, camp.ground(peg % 10, peg / 10, 3), peg);
        }
        for (int tent = 0; tent < 8; tent++) {
            CHECK.due("tent(" + tent + ", 6)", camp.tent(tent, 6), 2);
            CHECK.due("holds(" + tent + ", 5, 0)", camp.holds(tent, 5, 0), 2);
            CHECK.due("ground() at tent " + tent, camp.ground(tent, 9, 4), tent);
        }
        int[] dueAtFour = {8, 16, 1};
        int[] dueAtFive = {0, 0, 3};
        for (int what = 0; what <= 2; what++) {
            CHECK.due("storm(4, 0, " + what + ")", camp.storm(4, 0, what), dueAtFour[what]);
            CHECK.due("storm(5, 0, " + what + ")", camp.storm(5, 0, what), dueAtFive[what]);
        }
        CHECK.due("bears(0)", camp.bears(0), 4);
        CHECK.due("bears(2)", camp.bears(2), 0);
        CHECK.due("digest() as before", camp.digest(), before);
    }

    private static void advised() {
        TentCamp camp = full();
        CHECK.due("advise(7, 0) with all pegs in use", camp.advise(7, 0), -1);
        camp.tie(7, 15);
        CHECK.due("bears(0) at one rope", camp.bears(0), 2);
        CHECK.due("advise(7, 0) with the last peg free", camp.advise(7, 0), 15);
        CHECK.due("advise(0, 0) with the last peg free", camp.advise(0, 0), 15);
        camp.tie(0, 0);
        CHECK.due("advise(7, 0) with the first peg free", camp.advise(7, 0), 0);
    }

    private static void nights() {
        TentCamp camp = full();
        camp.setNight(0, 4, 0, 0);
        camp.setNight(1, 5, 0, 0);
        camp.setNight(2, 0, 0, 1);
        camp.setNight(3, 0, 0, 2);
        for (int nights = 1; nights <= 4; nights++) {
            CHECK.due("foresee(" + nights + ", 0)", camp.foresee(nights, 0), nights == 1 ? 8 : 0);
            CHECK.due("foresee(" + nights + ", 1)", camp.foresee(nights, 1), nights <= 2 ? 8 : 0);
            CHECK.due("foresee(" + nights + ", 2)", camp.foresee(nights, 2), nights == 1 ? 16 : 0);
        }
        CHECK.due("pass(1)", camp.pass(1), 0);
        CHECK.due("pass(2)", camp.pass(2), 8);
        for (int peg = 0; peg < 16; peg++) {
            CHECK.due("again(" + peg + ")", camp.again(peg), 20);
        }
        for (int tent = 0; tent < 8; tent++) {
            CHECK.due("tent(" + tent + ", 4)", camp.tent(tent, 4), 1);
            CHECK.due("raise(" + tent + ")", camp.raise(tent), 2);
            CHECK.due("count(4)", camp.count(4), tent + 1);
            CHECK.due("count(5)", camp.count(5), tent + 1);
        }
        CHECK.due("pass(1) with a flood of 20", camp.pass(1), 0);
        CHECK.due("count(5) with a flood of 20", camp.count(5), 0);
        CHECK.due("ground(7, 9, 1)", camp.ground(7, 9, 1), 4);
    }
}
