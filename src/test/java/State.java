/** All that an object answers, and how it goes on, as one text: two objects of one text are alike. */
final class State {
    // With the calls that made the object, no more than the document's 512.
    private static final int MOST_CALLS = 440;
    private static final int ROOMS = 4;

    private final RollerLeaf works;
    private final StringBuilder told = new StringBuilder();
    private int calls;

    private State(RollerLeaf works) {
        this.works = works;
    }

    /** The object is changed by this: it is asked what it would answer next, too. */
    static String of(RollerLeaf works) {
        State state = new State(works);
        state.tellPatterns();
        state.tellLots();
        for (int room = 0; room < ROOMS; room++) {
            state.tellRoom(room);
        }
        state.goOn();
        return state.told.toString();
    }

    private void tellPatterns() {
        int pattern = 0;
        while (tellPattern(pattern)) {
            pattern++;
        }
    }

    private boolean tellPattern(int pattern) {
        line("pattern " + pattern);
        if (!tell(() -> works.repeat(pattern, false))) {
            return false;
        }
        tell(() -> works.repeat(pattern, true));
        for (int y = 0; y < 5; y++) {
            for (int x = 0; x < 5; x++) {
                int column = x;
                int row = y;
                tell(() -> works.colour(pattern, column, row));
            }
        }
        return true;
    }

    private void tellLots() {
        int lot = 0;
        while (tellLot(lot)) {
            lot++;
        }
    }

    private boolean tellLot(int lot) {
        line("lot " + lot);
        if (!tell(() -> works.lotOf(lot, 0))) {
            return false;
        }
        for (int what = 1; what <= 4; what++) {
            int asked = what;
            tell(() -> works.lotOf(lot, asked));
        }
        return true;
    }

    private void tellRoom(int room) {
        line("room " + room);
        for (int what = 0; what <= 5; what++) {
            int asked = what;
            tell(() -> works.room(room, asked));
        }
        int wall = 0;
        while (tellWall(room, wall)) {
            wall++;
        }
    }

    private boolean tellWall(int room, int wall) {
        line("room " + room + " wall " + wall);
        int drop = 0;
        while (tellCut(room, wall, drop)) {
            drop++;
        }
        // In a bare room every cell answers NONE.
        calls++;
        boolean hung = works.room(room, 2) != RollerLeaf.NONE;
        int y = 0;
        while (hung && tellSeen(room, wall, 0, y)) {
            y++;
        }
        int x = 0;
        while (hung && tellSeen(room, wall, x, 0)) {
            x++;
        }
        return drop > 0;
    }

    private boolean tellCut(int room, int wall, int drop) {
        return tell(() -> works.cut(room, wall, drop));
    }

    private boolean tellSeen(int room, int wall, int x, int y) {
        return tell(() -> works.seen(room, wall, x, y));
    }

    private void goOn() {
        line("then");
        tell(works::lost);
        tell(() -> works.pattern(1, 1, RollerLeaf.SHIFT));
        tell(() -> works.roller(0, 60));
        tell(() -> works.lot(0, 1, 20, 200));
        for (int room = 0; room < ROOMS; room++) {
            goOnInRoom(room);
        }
        tell(works::lost);
    }

    private void goOnInRoom(int room) {
        line("then room " + room);
        tell(() -> works.lengthen(room, 0, 1));
        tell(() -> works.strip(room));
        tell(() -> works.hang(room, 0));
        tell(() -> works.room(room, 5));
        tell(() -> works.strip(room));
        tell(() -> works.wall(room, 1, 1));
        tell(() -> works.hang(room, 1));
        tell(() -> works.room(room, 5));
    }

    private void line(String name) {
        told.append('\n').append(name).append(':');
    }

    /** Answers whether the call answered, and did not throw. */
    private boolean tell(Checks.Call call) {
        calls++;
        if (calls > MOST_CALLS) {
            throw new AssertionError("a test's object is too large, or answers without end");
        }
        try {
            told.append(' ').append(call.answer());
            return true;
        } catch (RuntimeException e) {
            told.append(' ').append(e.getClass().getSimpleName());
            return false;
        }
    }
}
