/** Counts and prints the calls of a test that answer otherwise than is due. */
final class Checks {
    interface Call {
        long answer();
    }

    private final String test;
    private int made;
    private int wrong;

    Checks(String test) {
        this.test = test;
    }

    void equal(String what, long due, Call call) {
        made++;
        long answered;
        try {
            answered = call.answer();
        } catch (RuntimeException e) {
            fail(what, "threw " + e + ", due is " + due);
            return;
        }
        if (answered != due) {
            fail(what, "answered " + answered + ", due is " + due);
        }
    }

    void outside(String what, Call call) {
        throwing(what, IndexOutOfBoundsException.class, call);
    }

    void badArgument(String what, Call call) {
        throwing(what, IllegalArgumentException.class, call);
    }

    void badState(String what, Call call) {
        throwing(what, IllegalStateException.class, call);
    }

    void that(String what, boolean holds) {
        equal(what, 1, () -> holds ? 1 : 0);
    }

    void finish() {
        System.out.println(test + ": " + made + " checks, " + wrong + " wrong");
        if (wrong != 0) {
            System.exit(1);
        }
    }

    // The class itself and none below it: the machine's own exceptions are subclasses.
    private void throwing(String what, Class<? extends RuntimeException> due, Call call) {
        made++;
        try {
            long answered = call.answer();
            fail(what, "answered " + answered + ", due is " + due.getSimpleName());
        } catch (RuntimeException e) {
            if (e.getClass() != due) {
                fail(what, "threw " + e + ", due is " + due.getSimpleName());
            }
        }
    }

    private void fail(String what, String how) {
        wrong++;
        System.out.println(test + ": " + what + " " + how);
    }
}
