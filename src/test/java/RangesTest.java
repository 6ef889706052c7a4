import java.util.ArrayList;
import java.util.Arrays;
import java.util.List;

/**
 * Promises 2 to 20, what they say of ranges: every number of every call at all values of its range, right beyond
 * it and far beyond it, in all combinations. Of several exceptions the first named one is due, and a refused call
 * changes nothing; nor does a question.
 */
final class RangesTest {
    private static final Check CHECK = new Check("RangesTest");
    private static final Class<? extends RuntimeException> INDEX = IndexOutOfBoundsException.class;
    private static final Class<? extends RuntimeException> ARGUMENT = IllegalArgumentException.class;
    private static final Range CELL = new Range(INDEX, 0, 9);
    /** There are two of them in a worn camp. */
    private static final Range NUMBER = new Range(INDEX, 0, 1);
    private static final Range FORCE = new Range(ARGUMENT, 0, 9);
    private static final Range DIRECTION = new Range(ARGUMENT, 0, 3);
    private static final Range RAIN = new Range(ARGUMENT, 0, 9);
    private static final Range NIGHTS = new Range(ARGUMENT, 1, 30);

    private interface Call {
        void run(TentCamp camp, int[] a);
    }

    private static final class Range {
        final Class<? extends RuntimeException> beyond;
        final int least;
        final int most;

        Range(Class<? extends RuntimeException> beyond, int least, int most) {
            this.beyond = beyond;
            this.least = least;
            this.most = most;
        }

        boolean has(int number) {
            return number >= least && number <= most;
        }

        List<Integer> numbers() {
            List<Integer> numbers = new ArrayList<>(List.of(Integer.MIN_VALUE, Integer.MAX_VALUE));
            for (int number = least - 1; number <= most + 1; number++) {
                numbers.add(number);
            }
            return numbers;
        }
    }

    public static void main(String[] args) {
        ofTheSlope();
        ofPegsAndTents();
        ofWhatIsThere();
        ofWhatWouldBe();
        ofNights();
        CHECK.end();
    }

    private static void ofTheSlope() {
        Range height = new Range(ARGUMENT, 0, 30);
        Range firmness = new Range(ARGUMENT, 1, 9);
        changes("setGround", (camp, a) -> camp.setGround(a[0], a[1], a[2], a[3]), CELL, CELL, height, firmness);
        changes("ditch", (camp, a) -> camp.ditch(a[0], a[1]), CELL, CELL);
        Range row = new Range(INDEX, 0, 6);
        changes("setNight", (camp, a) -> camp.setNight(a[0], a[1], a[2], a[3]), row, FORCE, DIRECTION, RAIN);
    }

    private static void ofPegsAndTents() {
        Range size = new Range(ARGUMENT, 1, 9);
        changes("drive", (camp, a) -> camp.drive(a[0], a[1]), CELL, CELL);
        changes("pitch", (camp, a) -> camp.pitch(a[0], a[1], a[2]), CELL, CELL, size);
        changes("again", (camp, a) -> camp.again(a[0]), NUMBER);
        changes("raise", (camp, a) -> camp.raise(a[0]), NUMBER);
        changes("tie", (camp, a) -> camp.tie(a[0], a[1]), NUMBER, NUMBER);
    }

    private static void ofWhatIsThere() {
        asks("ground", INDEX, (camp, a) -> camp.ground(a[0], a[1], a[2]), CELL, CELL, what(4));
        asks("peg", INDEX, (camp, a) -> camp.peg(a[0], a[1]), NUMBER, what(4));
        asks("tent", INDEX, (camp, a) -> camp.tent(a[0], a[1]), NUMBER, what(6));
        asks("count", INDEX, (camp, a) -> camp.count(a[0]), what(7));
    }

    private static void ofWhatWouldBe() {
        asks("holds", INDEX, (camp, a) -> camp.holds(a[0], a[1], a[2]), NUMBER, FORCE, DIRECTION);
        asks("storm", ARGUMENT, (camp, a) -> camp.storm(a[0], a[1], a[2]), FORCE, DIRECTION, what(2));
        asks("bears", ARGUMENT, (camp, a) -> camp.bears(a[0]), DIRECTION);
        asks("flood", ARGUMENT, (camp, a) -> camp.flood(a[0], a[1], a[2]), RAIN, CELL, CELL);
        asks("advise", INDEX, (camp, a) -> camp.advise(a[0], a[1]), NUMBER, DIRECTION);
    }

    private static void ofNights() {
        changes("pass", (camp, a) -> camp.pass(a[0]), NIGHTS);
        asks("foresee", ARGUMENT, (camp, a) -> camp.foresee(a[0], a[1]), NIGHTS, what(2));
    }

    private static Range what(int most) {
        return new Range(INDEX, 0, most);
    }

    /** Two tents that have come down and two pegs that are out. */
    private static TentCamp worn() {
        TentCamp camp = new TentCamp();
        for (int number = 0; number < 2; number++) {
            camp.drive(number, 8);
            camp.pitch(number, 9, 9);
            camp.tie(number, number);
        }
        camp.setNight(0, 9, 0, 1);
        camp.pass(1);
        return camp;
    }

    private static void changes(String name, Call call, Range... ranges) {
        boolean onEmptyGround = name.equals("drive") || name.equals("pitch");
        for (int[] a : all(ranges)) {
            TentCamp camp = onEmptyGround ? new TentCamp() : worn();
            made(name, INDEX, call, camp, ranges, a);
        }
    }

    private static void asks(String name, Class<? extends RuntimeException> first, Call call, Range... ranges) {
        long before = worn().digest();
        for (int[] a : all(ranges)) {
            TentCamp camp = worn();
            made(name, first, call, camp, ranges, a);
            CHECK.due(name + Arrays.toString(a) + " changes nothing: digest()", camp.digest(), before);
        }
    }

    private static void made(String name, Class<? extends RuntimeException> first, Call call, TentCamp camp,
            Range[] ranges, int[] a) {
        Class<? extends RuntimeException> want = due(first, ranges, a);
        String title = name + Arrays.toString(a);
        if (want != null) {
            CHECK.refused(title, camp, want, () -> call.run(camp, a));
            return;
        }
        String thrown = "nothing";
        try {
            call.run(camp, a);
        } catch (RuntimeException e) {
            thrown = e.getClass().getSimpleName();
        }
        CHECK.due(title + " throws", thrown, "nothing");
    }

    private static Class<? extends RuntimeException> due(Class<? extends RuntimeException> first, Range[] ranges,
            int[] a) {
        Class<? extends RuntimeException> due = null;
        for (int i = 0; i < a.length; i++) {
            boolean within = ranges[i].has(a[i]);
            if (!within && due != first) {
                due = ranges[i].beyond;
            }
        }
        return due;
    }

    private static List<int[]> all(Range[] ranges) {
        List<int[]> all = List.of(new int[0]);
        for (Range range : ranges) {
            List<int[]> longer = new ArrayList<>();
            for (int[] start : all) {
                for (int number : range.numbers()) {
                    int[] a = Arrays.copyOf(start, start.length + 1);
                    a[start.length] = number;
                    longer.add(a);
                }
            }
            all = longer;
        }
        return all;
    }
}
