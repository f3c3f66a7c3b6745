import java.util.Arrays;

/**
 * Counts and prints the calls of a test that answer otherwise than is due, each under the sentence of the
 * document that asks for it.
 */
final class Checks {
    interface Call {
        long answer();
    }

    interface World {
        RollerLeaf make();
    }

    interface Deed {
        long on(RollerLeaf works);
    }

    private final String test;
    private final Document document = new Document();
    private String sentence = "";
    private int sentences;
    private int madeBefore;
    private int made;
    private int wrong;

    Checks(String test) {
        this.test = test;
    }

    /** The checks from here to the next sentence are of these words, which the document says under the heading. */
    void sentence(String heading, String words) {
        endSentence();
        sentence = heading + ": \"" + words + "\": ";
        sentences++;
        madeBefore = made;
        if (document.isThere() && !document.tells(heading, words)) {
            fail("the document", "does not say so");
        }
    }

    void equal(String what, long due, Call call) {
        made++;
        long answered;
        try {
            answered = call.answer();
        } catch (RuntimeException e) {
            fail(what, "threw " + e + ", due is " + due);
            return;
        }
        if (answered != due) {
            fail(what, "answered " + answered + ", due is " + due);
        }
    }

    /** The number of each answer is the call's last argument. */
    void answers(String what, RollerLeaf works, NumberedCall call, int... due) {
        for (int number = 0; number < due.length; number++) {
            int asked = number;
            equal(what + " " + number, due[number], () -> call.answer(works, asked));
        }
    }

    interface NumberedCall {
        long answer(RollerLeaf works, int number);
    }

    void that(String what, boolean holds) {
        equal(what, 1, () -> holds ? 1 : 0);
    }

    void outside(String what, World world, Deed refused) {
        refused(what, IndexOutOfBoundsException.class, world, refused);
    }

    void badArgument(String what, World world, Deed refused) {
        refused(what, IllegalArgumentException.class, world, refused);
    }

    void badState(String what, World world, Deed refused) {
        refused(what, IllegalStateException.class, world, refused);
    }

    void finish() {
        endSentence();
        System.out.println(test + ": " + made + " checks of " + sentences + " sentences, " + wrong + " wrong");
        if (wrong != 0) {
            System.exit(1);
        }
    }

    private void endSentence() {
        if (sentences > 0 && made == madeBefore) {
            fail("no check", "was made of it");
        }
    }

    /**
     * The deed throws just the class that is due, and a world in which it was tried is then like one in
     * which it was not: "A call that throws an exception changes nothing."
     */
    private void refused(String what, Class<? extends RuntimeException> due, World world, Deed deed) {
        made++;
        RollerLeaf tried = world.make();
        try {
            long answered = deed.on(tried);
            fail(what, "answered " + answered + ", due is " + due.getSimpleName());
            return;
        } catch (RuntimeException e) {
            // The class itself and none below it: the machine's own exceptions are subclasses.
            if (e.getClass() != due) {
                fail(what, "threw " + e + ", due is " + due.getSimpleName());
                return;
            }
        }
        String asDue = State.of(world.make());
        String asFound = State.of(tried);
        if (!asFound.equals(asDue)) {
            fail(what, "was refused, but changed something:\n" + difference(asDue, asFound));
        }
    }

    private static String difference(String asDue, String asFound) {
        String[] due = asDue.split("\n");
        String[] found = asFound.split("\n");
        int line = Math.max(Arrays.mismatch(due, found), 0);
        return "due is   " + (line < due.length ? due[line] : "no line more")
            + "\nfound is " + (line < found.length ? found[line] : "no line more");
    }

    private void fail(String what, String how) {
        wrong++;
        System.out.println(test + ": " + sentence + what + " " + how);
    }
}
