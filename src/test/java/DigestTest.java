import java.math.BigInteger;

/** Promise 22: the checksum, from what the other calls tell. */
final class DigestTest {
    private static final Check CHECK = new Check("DigestTest");

    public static void main(String[] args) {
        told();
        writtenOut();
        wrapsAround();
        eachThingCounts();
        CHECK.end();
    }

    private static void told() {
        int[] table = {0, 931, 0, 0, 0, 0, 409};
        boolean[][] ropes = {{true, false, true}, {false, false, true}};
        CHECK.due("digest() of a new camp", new TentCamp().digest(), told(-1, new int[7], new boolean[0][0]));
        CHECK.due("digest()", camp(0).digest(), told(0, table, ropes));
        CHECK.due("digest() 17 nights on", camp(17).digest(), told(17, table, ropes));
    }

    /** A camp with some of all there is, so many nights on; without nights (-1) a new one. */
    private static TentCamp camp(int nights) {
        TentCamp camp = new TentCamp();
        if (nights < 0) {
            return camp;
        }
        camp.setNight(1, 9, 3, 1);
        camp.setNight(6, 4, 0, 9);
        camp.drive(1, 2);
        camp.drive(8, 8);
        camp.drive(5, 0);
        camp.pitch(5, 5, 3);
        camp.pitch(0, 9, 9);
        camp.tie(0, 0);
        camp.tie(0, 2);
        camp.tie(1, 2);
        camp.setGround(4, 4, 30, 9);
        camp.ditch(2, 2);
        if (nights > 0) {
            camp.pass(nights);
        }
        return camp;
    }

    /** Asks another camp in each row, as one camp is not asked more than 512 times. */
    private static long told(int nights, int[] table, boolean[][] ropes) {
        TentCamp camp = camp(nights);
        long d = 881;
        for (int what = 0; what < 8; what++) {
            d = 31 * d + camp.count(what);
        }
        for (int y = 0; y < 10; y++) {
            TentCamp same = camp(nights);
            for (int place = 0; place < 50; place++) {
                d = 31 * d + same.ground(place / 5, y, place % 5);
            }
        }
        for (int weather : table) {
            d = 31 * d + weather;
        }
        for (int peg = 0; peg < camp.count(1); peg++) {
            for (int what = 0; what < 5; what++) {
                d = 31 * d + camp.peg(peg, what);
            }
        }
        for (int tent = 0; tent < ropes.length; tent++) {
            for (int what = 0; what < 7; what++) {
                d = 31 * d + camp.tent(tent, what);
            }
            for (boolean rope : ropes[tent]) {
                d = 31 * d + (rope ? 1 : 0);
            }
        }
        return d;
    }

    /** Numbers worked out apart from this program, from the document's list. */
    private static void writtenOut() {
        TentCamp camp = new TentCamp();
        CHECK.due("digest() of a new camp", camp.digest(), -6472773115741526385L);
        camp.setGround(9, 9, 30, 9);
        camp.ditch(0, 0);
        camp.setNight(6, 9, 3, 8);
        camp.drive(2, 1);
        camp.pitch(2, 3, 7);
        camp.tie(0, 0);
        CHECK.due("digest() of a camp with one of all", camp.digest(), -3828014603597390740L);
    }

    /** The last 64 bits, with their sign, of the number that never wraps around. */
    private static void wrapsAround() {
        TentCamp camp = new TentCamp();
        BigInteger d = BigInteger.valueOf(881);
        for (int place = 0; place < 8 + 500 + 7; place++) {
            int what = (place - 8) % 5;
            boolean ofACell = place >= 8 && place < 508;
            int[] cell = {9 - (place - 8) / 50, 5, 0, -1, -1};
            d = d.multiply(BigInteger.valueOf(31)).add(BigInteger.valueOf(ofACell ? cell[what] : 0));
        }
        CHECK.due("the number that never wraps around has more than 64 bits", d.bitLength() > 64, true);
        CHECK.due("digest() of a new camp", camp.digest(), d.longValue());
    }

    private static void eachThingCounts() {
        TentCamp camp = new TentCamp();
        long before = camp.digest();
        camp.setNight(5, 0, 0, 1);
        CHECK.due("digest() counts the table", camp.digest() != before, true);
        camp.setNight(5, 0, 0, 0);
        CHECK.due("digest() as before", camp.digest(), before);
        camp.ditch(0, 0);
        CHECK.due("digest() counts ditches", camp.digest() != before, true);
        camp.ditch(0, 0);
        camp.pass(1);
        CHECK.due("digest() counts nights", camp.digest() != before, true);
    }
}
