/** Collects the answers that are not the ones that are due, and ends a test. */
final class Check {
    /** A call on a manager; its answer may be of any type. */
    interface Call {
        Object answer();
    }

    private final String name;
    private int asked = 0;
    private int wrong = 0;

    Check(String name) {
        this.name = name;
    }

    /** Looks whether a call answers what is due. */
    void due(Object want, String call, Call made) {
        Object got;
        try {
            got = made.answer();
        } catch (RuntimeException thrown) {
            got = thrown.getClass().getName();
        }
        compare(want, call, got);
    }

    /** Looks whether a call throws an exception of exactly this class. */
    void thrown(Class<? extends RuntimeException> want, String call, Call made) {
        due(want.getName(), call, made);
    }

    void compare(Object want, String call, Object got) {
        asked++;
        if (!want.equals(got)) {
            wrong++;
            System.out.println(name + ": " + call + " answered " + got + ", due is " + want);
        }
    }

    /** Ends the test, with exit code 1 if an answer was wrong. */
    void end() {
        System.out.println(name + ": " + asked + " answers, " + wrong + " wrong");
        if (wrong != 0 || asked == 0) {
            System.exit(1);
        }
    }
}
