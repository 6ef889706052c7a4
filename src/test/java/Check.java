/** Counts the answers of one test that are not due, and ends it with exit code 1 if there was one. */
final class Check {
    interface Call {
        void run();
    }

    private final String test;
    private int asked;
    private int wrong;

    Check(String test) {
        this.test = test;
    }

    void due(String call, long got, long want) {
        asked++;
        if (got != want) {
            tell(call + " answered " + got + ", due is " + want);
        }
    }

    void due(String call, double got, double want) {
        asked++;
        if (got != want) {
            tell(call + " answered " + got + ", due is " + want);
        }
    }

    void due(String call, boolean got, boolean want) {
        due(call, got ? 1L : 0L, want ? 1L : 0L);
    }

    void due(String call, String got, String want) {
        asked++;
        if (!got.equals(want)) {
            tell(call + " answered " + got + ", due is " + want);
        }
    }

    /** The call must throw just this class, and leave the camp as it was. */
    void refused(String call, TentCamp camp, Class<? extends RuntimeException> want, Call made) {
        long before = camp.digest();
        String thrown = "nothing";
        try {
            made.run();
        } catch (RuntimeException e) {
            thrown = e.getClass().getSimpleName();
        }
        due(call + " throws", thrown, want.getSimpleName());
        due(call + " changes nothing: digest()", camp.digest(), before);
    }

    void outOfBounds(String call, TentCamp camp, Call made) {
        refused(call, camp, IndexOutOfBoundsException.class, made);
    }

    void badArgument(String call, TentCamp camp, Call made) {
        refused(call, camp, IllegalArgumentException.class, made);
    }

    void badState(String call, TentCamp camp, Call made) {
        refused(call, camp, IllegalStateException.class, made);
    }

    void end() {
        System.out.println(test + ": " + asked + " asked, " + wrong + " wrong");
        if (wrong != 0) {
            System.exit(1);
        }
    }

    private void tell(String what) {
        wrong++;
        System.out.println(test + ": " + what);
    }
}
