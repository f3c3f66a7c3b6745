import java.util.Arrays;

/** Long runs of calls, drawn from a fixed row of numbers, answered by the class and by the plain model. */
public final class ModelTest {
    private static final int RUNS = 2000;
    private static final int CALLS = 512;
    private static final int[] ODD = {Integer.MIN_VALUE, Integer.MAX_VALUE, -1, 1000, 1 << 30, -13};
    private static final String[] NAMES = {
        "pattern", "paint", "colour", "repeat", "repeatAnew", "roller", "lot", "lotOf",
        "wall", "hang", "lengthen", "strip", "room", "cut", "seen", "lost",
    };
    private static final int[] WEIGHTS = {4, 14, 6, 3, 6, 6, 6, 5, 9, 10, 9, 3, 12, 12, 12, 3};

    // Rooms that open the fewest rolls by a phase above 0, which drawn ones hardly ever do:
    // a pattern's rows and symmetry, a length, the fewest rolls, and drops and height of each wall.
    private static final int[][] PHASED = {
        {5, RollerLeaf.TURN, 162, 3, 1, 32, 4, 57, 2, 21, 7, 16},
        {4, RollerLeaf.SHIFT, 154, 7, 11, 49, 1, 10, 2, 60, 7, 40},
        {4, RollerLeaf.TURN, 127, 6, 9, 29, 6, 33, 7, 25},
        {3, RollerLeaf.BOTH, 164, 9, 5, 53, 11, 58, 6, 21, 10, 29},
        {5, RollerLeaf.GLIDE, 88, 7, 8, 12, 4, 25, 5, 11, 4, 54},
        {5, RollerLeaf.QUARTER, 122, 8, 5, 30, 7, 39, 11, 26, 10, 19},
        {5, RollerLeaf.MIRROR, 104, 16, 9, 43, 10, 57, 7, 26, 7, 35},
    };

    private static long state = 20240607;
    private static final long[] answered = new long[NAMES.length];
    private static final long[] thrown = new long[NAMES.length];
    private static int phased = 0;

    public static void main(String[] args) {
        for (int run = 0; run < RUNS; run++) {
            compareRun(run);
        }
        boolean covered = phased > RUNS / 5;
        for (int call = 0; call < NAMES.length; call++) {
            covered &= answered[call] > 100 && (thrown[call] > 100 || NAMES[call].equals("lost"));
        }
        System.out.println("ModelTest: " + RUNS + " runs, " + phased + " hung by a phase above 0");
        if (!covered) {
            System.out.println("ModelTest: a call was answered, or threw, too seldom to be tested");
            System.exit(1);
        }
    }

    private static void compareRun(int run) {
        RollerLeaf works = new RollerLeaf();
        PlainModel model = new PlainModel();
        StringBuilder told = new StringBuilder("ModelTest: run " + run + "\n");
        int made = run % 4 == 0 ? hangPhased(works, model, told) : 0;
        while (made < CALLS) {
            int call = drawCall();
            compareCall(call, arguments(call), works, model, told);
            made++;
        }
    }

    /** Answers how many calls it made. */
    private static int hangPhased(RollerLeaf works, PlainModel model, StringBuilder told) {
        int[] room = PHASED[below(PHASED.length)];
        int columns = room[1] == RollerLeaf.QUARTER ? room[0] : 1 + below(5);
        int rolls = room[3] + (below(2) == 0 ? 0 : below(21 - room[3]));
        int[][] first = {
            {0, columns, room[0], room[1]}, {1, 0, 0, room[0] - 1, 3}, {1, 0, columns - 1, 0, 5},
            {5, 0, 60 / repeatRows(room) * repeatRows(room)}, {6, 0, 0, rolls, room[2]},
        };
        int made = 0;
        for (int[] call : first) {
            compareCall(call[0], Arrays.copyOfRange(call, 1, call.length), works, model, told);
            made++;
        }
        for (int wall = 4; wall < room.length; wall += 2) {
            compareCall(8, new int[] {0, room[wall], room[wall + 1]}, works, model, told);
            made++;
        }
        compareCall(9, new int[] {0, 0}, works, model, told);
        compareCall(12, new int[] {0, 3}, works, model, told);
        return made + 2;
    }

    private static int repeatRows(int[] room) {
        boolean twice = room[1] == RollerLeaf.TURN || room[1] == RollerLeaf.BOTH || room[1] == RollerLeaf.QUARTER;
        return twice ? 2 * room[0] : room[0];
    }

    private static void compareCall(int call, int[] a, RollerLeaf works, PlainModel model, StringBuilder told) {
        String got = answer(call, a, works, null);
        String due = answer(call, a, null, model);
        told.append(NAMES[call]).append(Arrays.toString(a)).append(' ').append(got).append('\n');
        if (!got.equals(due)) {
            System.out.println(told + "ModelTest: the last row is wrong, due is " + due);
            System.exit(1);
        }
        count(call, a, got);
    }

    private static void count(int call, int[] a, String got) {
        if (got.startsWith("throws")) {
            thrown[call]++;
            return;
        }
        answered[call]++;
        if (NAMES[call].equals("room") && a[1] == 3 && Integer.parseInt(got) > 0) {
            phased++;
        }
    }

    private static int below(int bound) {
        state = state * 6364136223846793005L + 1442695040888963407L;
        return (int) ((state >>> 33) % bound);
    }

    private static int drawCall() {
        int sum = 0;
        for (int weight : WEIGHTS) {
            sum += weight;
        }
        int drawn = below(sum);
        int call = 0;
        while (drawn >= WEIGHTS[call]) {
            drawn -= WEIGHTS[call];
            call++;
        }
        return call;
    }

    /** Mostly within, sometimes just beside, seldom far off. */
    private static int near(int least, int most) {
        int kind = below(60);
        if (kind == 0) {
            return ODD[below(ODD.length)];
        }
        if (kind == 1) {
            return below(2) == 0 ? least - 1 : most + 1;
        }
        return least + below(most - least + 1);
    }

    private static int[] arguments(int call) {
        switch (NAMES[call]) {
            case "pattern": return new int[] {near(1, 5), near(1, 5), near(0, 5)};
            case "paint": return new int[] {near(0, 3), near(0, 3), near(0, 3), below(3) > 0 ? near(0, 1) : near(0, 7)};
            case "colour": return new int[] {near(0, 5), near(-12, 12), near(-12, 12)};
            case "repeat":
            case "repeatAnew": return new int[] {near(0, 5), below(2)};
            case "roller": return new int[] {near(0, 5), below(2) == 0 ? 60 : near(1, 60)};
            case "lot": return new int[] {near(0, 4), near(0, 9), near(1, 20), below(2) == 0 ? near(1, 200) : near(40, 120)};
            case "lotOf": return new int[] {near(0, 9), near(0, 4)};
            case "wall": return new int[] {near(0, 3), near(1, 12), near(1, 60)};
            case "hang": return new int[] {near(0, 3), near(0, 9)};
            case "lengthen": return new int[] {near(0, 3), near(0, 3), near(1, 12)};
            case "strip": return new int[] {near(0, 3)};
            case "room": return new int[] {near(0, 3), near(0, 5)};
            case "cut": return new int[] {near(0, 3), near(0, 3), near(0, 15)};
            case "seen": return new int[] {near(0, 3), near(0, 3), near(0, 60), near(0, 40)};
            default: return new int[0];
        }
    }

    private static String answer(int call, int[] a, RollerLeaf works, PlainModel model) {
        try {
            return Integer.toString(works != null ? ask(call, a, works) : ask(call, a, model));
        } catch (RuntimeException e) {
            return "throws." + e.getClass().getSimpleName();
        }
    }

    private static int ask(int call, int[] a, RollerLeaf works) {
        switch (NAMES[call]) {
            case "pattern": return works.pattern(a[0], a[1], a[2]);
            case "paint": return works.paint(a[0], a[1], a[2], a[3]);
            case "colour": return works.colour(a[0], a[1], a[2]);
            case "repeat": return works.repeat(a[0], a[1] == 1);
            case "repeatAnew": return works.repeatAnew(a[0], a[1] == 1);
            case "roller": return works.roller(a[0], a[1]);
            case "lot": return works.lot(a[0], a[1], a[2], a[3]);
            case "lotOf": return works.lotOf(a[0], a[1]);
            case "wall": return works.wall(a[0], a[1], a[2]);
            case "hang": return works.hang(a[0], a[1]);
            case "lengthen": return works.lengthen(a[0], a[1], a[2]);
            case "strip": return works.strip(a[0]);
            case "room": return works.room(a[0], a[1]);
            case "cut": return works.cut(a[0], a[1], a[2]);
            case "seen": return works.seen(a[0], a[1], a[2], a[3]);
            default: return works.lost();
        }
    }

    private static int ask(int call, int[] a, PlainModel model) {
        switch (NAMES[call]) {
            case "pattern": return model.pattern(a[0], a[1], a[2]);
            case "paint": return model.paint(a[0], a[1], a[2], a[3]);
            case "colour": return model.colour(a[0], a[1], a[2]);
            case "repeat": return model.repeat(a[0], a[1] == 1);
            case "repeatAnew": return model.repeatAnew(a[0], a[1] == 1);
            case "roller": return model.roller(a[0], a[1]);
            case "lot": return model.lot(a[0], a[1], a[2], a[3]);
            case "lotOf": return model.lotOf(a[0], a[1]);
            case "wall": return model.wall(a[0], a[1], a[2]);
            case "hang": return model.hang(a[0], a[1]);
            case "lengthen": return model.lengthen(a[0], a[1], a[2]);
            case "strip": return model.strip(a[0]);
            case "room": return model.room(a[0], a[1]);
            case "cut": return model.cut(a[0], a[1], a[2]);
            case "seen": return model.seen(a[0], a[1], a[2], a[3]);
            default: return model.lost();
        }
    }
}
