/** Promise 4: the table of the nights. */
final class NightTableTest {
    public static void main(String[] args) {
        Check check = new Check("NightTableTest");
        TentCamp camp = new TentCamp();
        check.due("setNight(0, 9, 3, 9)", camp.setNight(0, 9, 3, 9), 0);
        check.due("setNight(6, 1, 2, 3)", camp.setNight(6, 1, 2, 3), 0);
        check.due("setNight(0, 0, 0, 0)", camp.setNight(0, 0, 0, 0), 939);
        check.due("setNight(6, 4, 0, 7)", camp.setNight(6, 4, 0, 7), 123);
        check.due("setNight(6, 4, 0, 7)", camp.setNight(6, 4, 0, 7), 407);
        check.due("setNight(0, 5, 1, 0)", camp.setNight(0, 5, 1, 0), 0);
        check.outOfBounds("setNight(-1, 1, 1, 1)", camp, () -> camp.setNight(-1, 1, 1, 1));
        check.outOfBounds("setNight(7, 1, 1, 1)", camp, () -> camp.setNight(7, 1, 1, 1));
        check.badArgument("setNight(0, -1, 1, 1)", camp, () -> camp.setNight(0, -1, 1, 1));
        check.badArgument("setNight(0, 10, 1, 1)", camp, () -> camp.setNight(0, 10, 1, 1));
        check.badArgument("setNight(0, 1, -1, 1)", camp, () -> camp.setNight(0, 1, -1, 1));
        check.badArgument("setNight(0, 1, 4, 1)", camp, () -> camp.setNight(0, 1, 4, 1));
        check.badArgument("setNight(0, 1, 1, -1)", camp, () -> camp.setNight(0, 1, 1, -1));
        check.badArgument("setNight(0, 1, 1, 10)", camp, () -> camp.setNight(0, 1, 1, 10));
        check.outOfBounds("setNight(7, 10, 4, 10)", camp, () -> camp.setNight(7, 10, 4, 10));
        check.due("setNight(0, 0, 0, 0)", camp.setNight(0, 0, 0, 0), 510);
        for (int night = 0; night <= 6; night++) {
            camp.setNight(night, night + 3, night % 4, 9 - night);
        }
        for (int night = 0; night <= 6; night++) {
            int due = 100 * (night + 3) + 10 * (night % 4) + 9 - night;
            check.due("setNight(" + night + ", 9, 3, 9)", camp.setNight(night, 9, 3, 9), due);
            check.due("setNight(" + night + ", 0, 0, 0)", camp.setNight(night, 0, 0, 0), 939);
        }
        check.end();
    }
}
