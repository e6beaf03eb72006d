/** Collects the answers that are not the ones that are due, and ends a test. */
final class Check {
    /** A call on a manager; its answer may be of any type. */
    interface Call {
        Object answer();
    }

    private final String name;
    private int asked = 0;
    private int wrong = 0;

    Check(String name) {
        this.name = name;
    }

    /** What a call answers: a value, or the name of the exception that it throws. */
    static Object answer(Call made) {
        try {
            return made.answer();
        } catch (RuntimeException thrown) {
            return thrown.getClass().getName();
        }
    }

    /** Looks whether a call answers what is due. */
    void due(Object want, String call, Call made) {
        compare(want, call, answer(made));
    }

    /** Looks whether a call throws an exception of exactly this class. */
    void thrown(Class<? extends RuntimeException> want, String call, Call made) {
        due(want.getName(), call, made);
    }

    void compare(Object want, String call, Object got) {
        asked++;
        if (!want.equals(got)) {
            wrong++;
            System.out.println(name + ": " + call + " answered " + got + ", due is " + want);
        }
    }

    /** Takes in the answers that another check has looked at. */
    void add(Check other) {
        asked += other.asked;
        wrong += other.wrong;
    }

    /** Whether at least one answer was looked at and none was wrong. */
    boolean holds() {
        return asked > 0 && wrong == 0;
    }

    /** Ends the test, with exit code 1 if an answer was wrong. */
    void end() {
        System.out.println(name + ": " + asked + " answers, " + wrong + " wrong");
        if (!holds()) {
            System.exit(1);
        }
    }
}
