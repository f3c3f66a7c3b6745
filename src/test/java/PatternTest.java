/** Promises 1 to 6: a new object, pattern, paint, colour, repeat, repeatAnew. */
public final class PatternTest {
    private static final int LOWEST = Integer.MIN_VALUE;
    private static final int HIGHEST = Integer.MAX_VALUE;

    private static final Checks checks = new Checks("PatternTest");

    public static void main(String[] args) {
        newObject();
        patternArguments();
        patternLimit();
        paintedCells();
        paintExceptions();
        shiftedRepeat();
        turnedRepeat();
        mirroredRepeat();
        glidingRepeat();
        repeatOfBoth();
        quarteredRepeat();
        withoutEnd();
        coloursFollowTheMotif();
        repeatSizes();
        repeatsFoundAnew();
        noSuchPattern();
        checks.finish();
    }

    private static void newObject() {
        RollerLeaf works = new RollerLeaf();
        checks.outside("new: colour(0)", () -> works.colour(0, 0, 0));
        checks.outside("new: roller(0)", () -> works.roller(0, 1));
        checks.outside("new: lot(0)", () -> works.lot(0, 0, 1, 1));
        checks.outside("new: lotOf(0)", () -> works.lotOf(0, 0));
        for (int room = 0; room < 4; room++) {
            int number = room;
            checks.equal("new: walls of room " + room, 0, () -> works.room(number, 0));
            checks.equal("new: drops of room " + room, 0, () -> works.room(number, 1));
            for (int what = 2; what <= 5; what++) {
                int asked = what;
                checks.equal("new: room(" + room + ", " + what + ")", -1, () -> works.room(number, asked));
            }
            checks.outside("new: cut in room " + room, () -> works.cut(number, 0, 0));
        }
        checks.equal("new: lost", 0, works::lost);
    }

    private static void patternArguments() {
        RollerLeaf works = new RollerLeaf();
        int[][] wrong = {
            {0, 1, 0}, {6, 1, 0}, {1, 0, 0}, {1, 6, 0}, {1, 1, -1}, {1, 1, 6}, {2, 3, RollerLeaf.QUARTER},
            {3, 2, RollerLeaf.QUARTER}, {LOWEST, 1, 0}, {1, HIGHEST, 0}, {1, 1, HIGHEST}, {0, 0, 5},
        };
        for (int[] w : wrong) {
            checks.badArgument("pattern(" + w[0] + ", " + w[1] + ", " + w[2] + ")", () -> works.pattern(w[0], w[1], w[2]));
        }
        checks.equal("the first pattern after wrong ones", 0, () -> works.pattern(1, 1, RollerLeaf.SHIFT));
        checks.equal("a pattern of 5, 5", 1, () -> works.pattern(5, 5, RollerLeaf.QUARTER));
        checks.equal("a pattern of 5, 1", 2, () -> works.pattern(5, 1, RollerLeaf.BOTH));
    }

    private static void patternLimit() {
        RollerLeaf works = new RollerLeaf();
        for (int number = 0; number < 6; number++) {
            checks.equal("pattern " + number, number, () -> works.pattern(2, 2, RollerLeaf.SHIFT));
        }
        checks.badState("a seventh pattern", () -> works.pattern(2, 2, RollerLeaf.SHIFT));
        checks.badArgument("a seventh, wrong pattern", () -> works.pattern(2, 3, RollerLeaf.QUARTER));
        checks.outside("the seventh", () -> works.colour(6, 0, 0));
        checks.equal("the sixth", 0, () -> works.colour(5, 0, 0));
    }

    private static void paintedCells() {
        RollerLeaf works = painted(2, 3, RollerLeaf.SHIFT);
        checks.equal("paint again", 1, () -> works.paint(0, 0, 0, 7));
        checks.equal("and again", 7, () -> works.paint(0, 0, 0, 0));
        checks.equal("to 0", 0, () -> works.paint(0, 0, 0, 0));
        checks.equal("another is as before", 6, () -> works.paint(0, 1, 2, 6));
        works.pattern(2, 3, RollerLeaf.SHIFT);
        checks.equal("another pattern's cell", 0, () -> works.paint(1, 1, 2, 3));
        checks.equal("the first pattern's cell", 6, () -> works.colour(0, 1, 2));
    }

    private static void paintExceptions() {
        RollerLeaf works = painted(2, 3, RollerLeaf.BOTH);
        checks.outside("x above", () -> works.paint(0, 2, 0, 1));
        checks.outside("x below", () -> works.paint(0, -1, 0, 1));
        checks.outside("y above", () -> works.paint(0, 0, 3, 1));
        checks.outside("y below", () -> works.paint(0, 0, -1, 1));
        checks.outside("x lowest", () -> works.paint(0, LOWEST, 0, 1));
        checks.outside("y highest", () -> works.paint(0, 0, HIGHEST, 1));
        checks.outside("pattern above", () -> works.paint(1, 0, 0, 1));
        checks.outside("pattern below", () -> works.paint(-1, 0, 0, 1));
        checks.badArgument("colour above", () -> works.paint(0, 0, 0, 8));
        checks.badArgument("colour below", () -> works.paint(0, 0, 0, -1));
        checks.outside("pattern goes before colour", () -> works.paint(1, 0, 0, 8));
        checks.outside("cell goes before colour", () -> works.paint(0, 2, 0, 8));
        shows("no cell is changed by exceptions", works, "1221", "3443", "5665", "5665", "3443", "1221");
    }

    private static void shiftedRepeat() {
        shows("SHIFT", painted(2, 3, RollerLeaf.SHIFT), "12", "34", "56");
    }

    private static void turnedRepeat() {
        shows("TURN", painted(2, 3, RollerLeaf.TURN), "12", "34", "56", "65", "43", "21");
        shows("TURN, flat", painted(3, 1, RollerLeaf.TURN), "123", "321");
    }

    private static void mirroredRepeat() {
        shows("MIRROR", painted(2, 3, RollerLeaf.MIRROR), "1221", "3443", "5665");
        shows("MIRROR, flat", painted(3, 1, RollerLeaf.MIRROR), "123321");
    }

    private static void glidingRepeat() {
        shows("GLIDE", painted(2, 3, RollerLeaf.GLIDE), "1256", "3434", "5612");
    }

    private static void repeatOfBoth() {
        shows("BOTH", painted(2, 3, RollerLeaf.BOTH), "1221", "3443", "5665", "5665", "3443", "1221");
    }

    private static void quarteredRepeat() {
        shows("QUARTER", painted(2, 2, RollerLeaf.QUARTER), "1231", "3442", "2443", "1321");
        RollerLeaf works = painted(3, 3, RollerLeaf.QUARTER);
        shows("QUARTER of 3", works, "123741", "456052", "701163", "361107", "250654", "147321");
    }

    private static void withoutEnd() {
        RollerLeaf works = painted(2, 3, RollerLeaf.TURN);
        checks.equal("left of 0", 2, () -> works.colour(0, -1, 0));
        checks.equal("above 0", 2, () -> works.colour(0, 1, -6));
        checks.equal("just above 0", 1, () -> works.colour(0, 1, -1));
        checks.equal("far right", 4, () -> works.colour(0, 2001, 601));
        checks.equal("lowest", colourOfTurn(LOWEST, LOWEST), () -> works.colour(0, LOWEST, LOWEST));
        checks.equal("highest", colourOfTurn(HIGHEST, HIGHEST), () -> works.colour(0, HIGHEST, HIGHEST));
    }

    private static int colourOfTurn(int x, int y) {
        String[] rows = {"12", "34", "56", "65", "43", "21"};
        return rows[Math.floorMod(y, 6)].charAt(Math.floorMod(x, 2)) - '0';
    }

    private static void coloursFollowTheMotif() {
        RollerLeaf works = painted(2, 2, RollerLeaf.QUARTER);
        works.paint(0, 1, 0, 7);
        shows("QUARTER painted again", works, "1731", "3447", "7443", "1371");
    }

    private static void repeatSizes() {
        int[] byColumns = {1, 1, 2, 2, 2, 2};
        int[] byRows = {1, 2, 1, 1, 2, 2};
        RollerLeaf works = new RollerLeaf();
        for (int symmetry = RollerLeaf.SHIFT; symmetry <= RollerLeaf.QUARTER; symmetry++) {
            int number = works.pattern(3, symmetry == RollerLeaf.QUARTER ? 3 : 5, symmetry);
            int rows = symmetry == RollerLeaf.QUARTER ? 3 : 5;
            int times = symmetry;
            checks.equal("columns by " + symmetry, 3 * byColumns[times], () -> works.repeat(number, false));
            checks.equal("rows by " + symmetry, rows * byRows[times], () -> works.repeat(number, true));
        }
    }

    private static void repeatsFoundAnew() {
        RollerLeaf works = new RollerLeaf();
        works.pattern(4, 5, RollerLeaf.BOTH);
        checks.equal("columns of one colour", 1, () -> works.repeatAnew(0, false));
        checks.equal("rows of one colour", 1, () -> works.repeatAnew(0, true));
        checks.equal("columns by the symmetry", 8, () -> works.repeat(0, false));
        works.paint(0, 0, 0, 1);
        checks.equal("columns, one cell painted", 8, () -> works.repeatAnew(0, false));
        checks.equal("rows, one cell painted", 10, () -> works.repeatAnew(0, true));
        works.paint(0, 3, 0, 1);
        checks.equal("columns, painted at both ends", 4, () -> works.repeatAnew(0, false));
        works.paint(0, 0, 4, 1);
        checks.equal("columns, when a row still differs", 8, () -> works.repeatAnew(0, false));
        works.paint(0, 3, 4, 1);
        checks.equal("rows, painted at both ends", 5, () -> works.repeatAnew(0, true));
        works.pattern(4, 1, RollerLeaf.SHIFT);
        works.paint(1, 1, 0, 2);
        works.paint(1, 3, 0, 2);
        checks.equal("columns within a motif", 2, () -> works.repeatAnew(1, false));
        works.pattern(3, 1, RollerLeaf.SHIFT);
        works.paint(2, 0, 0, 2);
        works.paint(2, 2, 0, 2);
        checks.equal("a move that does not divide the repeat is none", 3, () -> works.repeatAnew(2, false));
        works.pattern(2, 2, RollerLeaf.GLIDE);
        works.paint(3, 0, 0, 1);
        works.paint(3, 1, 1, 1);
        checks.equal("a checked GLIDE, columns", 4, () -> works.repeatAnew(3, false));
        works.paint(3, 0, 1, 1);
        works.paint(3, 1, 0, 1);
        checks.equal("a full GLIDE, columns", 1, () -> works.repeatAnew(3, false));
    }

    private static void noSuchPattern() {
        RollerLeaf works = painted(2, 2, RollerLeaf.SHIFT);
        for (int number : new int[] {-1, 1, 6, LOWEST, HIGHEST}) {
            checks.outside("colour of pattern " + number, () -> works.colour(number, 0, 0));
            checks.outside("repeat of pattern " + number, () -> works.repeat(number, true));
            checks.outside("repeatAnew of pattern " + number, () -> works.repeatAnew(number, false));
        }
    }

    /** A pattern 0 whose motif has the colours 1, 2, .. 7, 0, 1 .. row by row. */
    private static RollerLeaf painted(int columns, int rows, int symmetry) {
        RollerLeaf works = new RollerLeaf();
        works.pattern(columns, rows, symmetry);
        int colour = 1;
        for (int y = 0; y < rows; y++) {
            for (int x = 0; x < columns; x++) {
                int painted = colour % 8;
                int column = x;
                int row = y;
                checks.equal("paint(0, " + x + ", " + y + ")", 0, () -> works.paint(0, column, row, painted));
                colour++;
            }
        }
        return works;
    }

    private static void shows(String what, RollerLeaf works, String... rows) {
        for (int y = 0; y < rows.length; y++) {
            for (int x = 0; x < rows[y].length(); x++) {
                int column = x;
                int row = y;
                checks.equal(what + " at " + x + ", " + y, rows[y].charAt(x) - '0', () -> works.colour(0, column, row));
            }
        }
        checks.equal(what + ": columns", rows[0].length(), () -> works.repeat(0, false));
        checks.equal(what + ": rows", rows.length, () -> works.repeat(0, true));
    }
}
