/** Counts answers that are not as due and prints each of them. */
final class Check {
    interface Call {
        long answer();
    }

    private final String about;
    private final boolean prints;
    private int made;
    private int wrong;

    Check() {
        this("", true);
    }

    /** Prints what is asked about ahead of each wrong answer, if it prints at all. */
    Check(String about, boolean prints) {
        this.about = about;
        this.prints = prints;
    }

    void due(String call, long want, Call made) {
        this.made++;
        try {
            long got = made.answer();
            if (got != want) {
                fail(call + " answered " + got + ", due is " + want);
            }
        } catch (RuntimeException e) {
            fail(call + " throws " + e + ", due is " + want);
        }
    }

    void is(String call, long want, long got) {
        due(call, want, () -> got);
    }

    void refused(MoneyBooth booth, String call, Class<? extends RuntimeException> want, Call made) {
        this.made++;
        long before = booth.digest();
        try {
            fail(call + " answered " + made.answer() + ", due is " + want.getSimpleName());
        } catch (RuntimeException e) {
            if (e.getClass() != want) {
                fail(call + " throws " + e + ", due is " + want.getSimpleName());
            }
        }
        if (booth.digest() != before) {
            fail(call + " throws and changes something");
        }
    }

    void holds(String what, boolean held) {
        made++;
        if (!held) {
            fail(what);
        }
    }

    void fail(String what) {
        wrong++;
        if (prints) {
            System.out.println("WRONG: " + about + what);
        }
    }

    int made() {
        return made;
    }

    int wrong() {
        return wrong;
    }

    void end() {
        System.out.println(made + " checks, " + wrong + " wrong");
        if (wrong != 0 || made == 0) {
            System.exit(1);
        }
    }
}
