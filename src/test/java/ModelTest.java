import java.util.Arrays;
import java.util.Random;

/** All promises: long runs of calls, right and wrong ones, with the answers that ReferenceCamp gives. */
final class ModelTest {
    private static final int RUNS = 60;
    /** With the digest() behind each 16th one and at the end a camp is asked no more than 512 times. */
    private static final int CALLS = 480;
    private static final String[] BUILDING = {
        "drive", "drive", "pitch", "tie", "tie", "tie", "tie", "setGround", "setGround", "setNight", "ditch"
    };
    private static final String[] ALL = {
        "setGround", "setGround", "setGround", "ditch", "setNight", "setNight", "drive", "again", "again", "pitch",
        "raise", "raise", "raise", "tie", "tie", "tie", "ground", "peg", "tent", "count", "holds", "storm", "storm",
        "bears", "flood", "flood", "advise", "advise", "pass", "foresee", "mean", "digest"
    };

    public static void main(String[] args) {
        Check check = new Check("ModelTest");
        for (int run = 0; run < RUNS; run++) {
            oneRun(check, run, new Random(run));
        }
        check.end();
    }

    private static void oneRun(Check check, int run, Random random) {
        TentCamp camp = new TentCamp();
        ReferenceCamp reference = new ReferenceCamp();
        for (int made = 0; made < CALLS; made++) {
            String[] calls = made < 80 ? BUILDING : ALL;
            String call = calls[random.nextInt(calls.length)];
            int[] a = arguments(call, random);
            String title = "run " + run + ", call " + made + ": " + call + Arrays.toString(a);
            check.due(title, answer(camp, call, a), reference.answer(call, a));
            if (made % 16 == 0) {
                check.due(title + " and digest()", answer(camp, "digest", a), reference.answer("digest", a));
            }
        }
        check.due("run " + run + ": digest()", answer(camp, "digest", null), reference.answer("digest", null));
    }

    private static int[] arguments(String call, Random random) {
        switch (call) {
            case "setGround": return in(random, 0, 9, 0, 9, 0, random.nextBoolean() ? 30 : 4, 1, 9);
            case "ditch": return in(random, 0, 9, 0, 9);
            case "setNight": return in(random, 0, 6, 0, random.nextBoolean() ? 9 : 2, 0, 3, 0, 9);
            case "drive": return in(random, 0, 9, 0, 9);
            case "again": return in(random, 0, 15);
            case "pitch": return in(random, 0, 9, 0, 9, 1, 9);
            case "raise": return in(random, 0, 7);
            case "tie": return in(random, 0, 7, 0, 15);
            case "ground": return in(random, 0, 9, 0, 9, 0, 4);
            case "peg": return in(random, 0, 15, 0, 4);
            case "tent": return in(random, 0, 7, 0, 6);
            case "count": return in(random, 0, 7);
            case "holds": return in(random, 0, 7, 0, 9, 0, 3);
            case "storm": return in(random, 0, 9, 0, 3, 0, 2);
            case "bears": return in(random, 0, 3);
            case "flood": return in(random, 0, 9, 0, 9, 0, 9);
            case "advise": return in(random, 0, 7, 0, 3);
            case "pass": return in(random, 1, random.nextInt(4) == 0 ? 30 : 2);
            case "foresee": return in(random, 1, random.nextInt(2) == 0 ? 30 : 4, 0, 2);
            default: return new int[0];
        }
    }

    /** A number for each pair of bounds; now and then one lies outside, some of these far outside. */
    private static int[] in(Random random, int... bounds) {
        int[] numbers = new int[bounds.length / 2];
        for (int i = 0; i < numbers.length; i++) {
            int least = bounds[2 * i];
            int most = bounds[2 * i + 1];
            int[] outside = {least - 1, most + 1, Integer.MIN_VALUE, Integer.MAX_VALUE, random.nextInt()};
            boolean inside = random.nextInt(25) != 0;
            numbers[i] = inside ? least + random.nextInt(most - least + 1) : outside[random.nextInt(outside.length)];
        }
        return numbers;
    }

    private static String answer(TentCamp camp, String call, int[] a) {
        try {
            return String.valueOf(result(camp, call, a));
        } catch (RuntimeException e) {
            return e.getClass().getSimpleName();
        }
    }

    private static Object result(TentCamp camp, String call, int[] a) {
        switch (call) {
            case "setGround": return camp.setGround(a[0], a[1], a[2], a[3]);
            case "ditch": return camp.ditch(a[0], a[1]);
            case "setNight": return camp.setNight(a[0], a[1], a[2], a[3]);
            case "drive": return camp.drive(a[0], a[1]);
            case "again": return camp.again(a[0]);
            case "pitch": return camp.pitch(a[0], a[1], a[2]);
            case "raise": return camp.raise(a[0]);
            case "tie": return camp.tie(a[0], a[1]);
            case "ground": return camp.ground(a[0], a[1], a[2]);
            case "peg": return camp.peg(a[0], a[1]);
            case "tent": return camp.tent(a[0], a[1]);
            case "count": return camp.count(a[0]);
            case "holds": return camp.holds(a[0], a[1], a[2]);
            case "storm": return camp.storm(a[0], a[1], a[2]);
            case "bears": return camp.bears(a[0]);
            case "flood": return camp.flood(a[0], a[1], a[2]);
            case "advise": return camp.advise(a[0], a[1]);
            case "pass": return camp.pass(a[0]);
            case "foresee": return camp.foresee(a[0], a[1]);
            case "mean": return camp.mean();
            case "digest": return camp.digest();
            default: throw new AssertionError(call);
        }
    }
}
