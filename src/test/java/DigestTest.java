/** Promise 22: the checksum, from what the other calls tell. */
final class DigestTest {
    private static final Check CHECK = new Check("DigestTest");

    public static void main(String[] args) {
        TentCamp empty = new TentCamp();
        CHECK.due("digest() of a new camp", empty.digest(), told(empty, new int[7], new boolean[0][0]));
        CHECK.due("digest() of another one", new TentCamp().digest(), empty.digest());
        full();
        eachThingCounts();
        CHECK.end();
    }

    private static void full() {
        TentCamp camp = new TentCamp();
        int[] table = {0, 931, 0, 0, 0, 0, 409};
        boolean[][] ropes = {{true, false, true}, {false, false, true}};
        camp.setNight(1, 9, 3, 1);
        camp.setNight(6, 4, 0, 9);
        camp.drive(1, 2);
        camp.drive(8, 8);
        camp.drive(5, 0);
        camp.pitch(5, 5, 3);
        camp.pitch(0, 9, 9);
        camp.tie(0, 0);
        camp.tie(0, 2);
        camp.tie(1, 2);
        camp.setGround(4, 4, 30, 9);
        camp.ditch(2, 2);
        CHECK.due("digest()", camp.digest(), told(camp, table, ropes));
        camp.pass(17);
        CHECK.due("digest() 17 nights on", camp.digest(), told(camp, table, ropes));
    }

    private static long told(TentCamp camp, int[] table, boolean[][] ropes) {
        long d = 881;
        for (int what = 0; what < 8; what++) {
            d = 31 * d + camp.count(what);
        }
        for (int y = 0; y < 10; y++) {
            for (int x = 0; x < 10; x++) {
                for (int what = 0; what < 5; what++) {
                    d = 31 * d + camp.ground(x, y, what);
                }
            }
        }
        for (int weather : table) {
            d = 31 * d + weather;
        }
        for (int peg = 0; peg < camp.count(1); peg++) {
            for (int what = 0; what < 5; what++) {
                d = 31 * d + camp.peg(peg, what);
            }
        }
        for (int tent = 0; tent < ropes.length; tent++) {
            for (int what = 0; what < 7; what++) {
                d = 31 * d + camp.tent(tent, what);
            }
            for (boolean rope : ropes[tent]) {
                d = 31 * d + (rope ? 1 : 0);
            }
        }
        return d;
    }

    private static void eachThingCounts() {
        TentCamp camp = new TentCamp();
        long before = camp.digest();
        camp.setNight(5, 0, 0, 1);
        CHECK.due("digest() counts the table", camp.digest() != before, true);
        camp.setNight(5, 0, 0, 0);
        CHECK.due("digest() as before", camp.digest(), before);
        camp.ditch(0, 0);
        CHECK.due("digest() counts ditches", camp.digest() != before, true);
        camp.ditch(0, 0);
        camp.pass(1);
        CHECK.due("digest() counts nights", camp.digest() != before, true);
    }
}
