/** What the document says of patterns, and promises 2 to 6: pattern, paint, colour, repeat, repeatAnew. */
public final class PatternTest {
    private static final int LOWEST = Samples.LOWEST;
    private static final int HIGHEST = Samples.HIGHEST;
    private static final int[] NO_PATTERNS = {-1, 1, 6, LOWEST, HIGHEST};
    private static final String[] NAMES = {"SHIFT", "TURN", "MIRROR", "GLIDE", "BOTH", "QUARTER"};
    // How often a repeat has the columns and the rows of its motif, by symmetry.
    private static final int[] COLUMN_TIMES = {1, 1, 2, 2, 2, 2};
    private static final int[] ROW_TIMES = {1, 2, 1, 1, 2, 2};

    private static final Checks checks = new Checks("PatternTest");

    public static void main(String[] args) {
        sixPatterns();
        motifs();
        shifted();
        turned();
        mirrored();
        gliding();
        both();
        quartered();
        withoutEnd();
        patternArguments();
        patternsNumber();
        patternExceptions();
        paintedColours();
        colourBefore();
        paintExceptions();
        anyColumnAndRow();
        repeatBySymmetry();
        repeatFoundAnew();
        repeatAnewOfAllCells();
        repeatAnewIsOneOrMore();
        noSuchPattern();
        checks.finish();
    }

    // ---- terms

    private static void sixPatterns() {
        checks.sentence("Patterns", "Patterns are numbered from 0, at most 6.");
        RollerLeaf works = new RollerLeaf();
        for (int number : Samples.range(0, 5)) {
            checks.equal("pattern " + number, number, () -> works.pattern(2, 2, RollerLeaf.SHIFT));
        }
        checks.equal("a cell of the pattern 5", 0, () -> works.paint(5, 1, 1, 7));
        checks.equal("the pattern 5", 7, () -> works.colour(5, 1, 1));
        checks.equal("the pattern 4 is another", 0, () -> works.colour(4, 1, 1));
        checks.badState("a seventh pattern", () -> withPatterns(6), w -> w.pattern(2, 2, RollerLeaf.SHIFT));
        checks.outside("the pattern 6 of 6", () -> withPatterns(6), w -> w.colour(6, 0, 0));
        checks.outside("the pattern 5 of 5", () -> withPatterns(5), w -> w.colour(5, 0, 0));
    }

    private static void motifs() {
        checks.sentence("Patterns", "A pattern has a motif of w columns and h rows, 1 to 5 each, of cells with"
            + " colours, 0 to 7, all 0 at first, and a symmetry.");
        for (int symmetry : Samples.range(RollerLeaf.SHIFT, RollerLeaf.QUARTER)) {
            for (int columns : Samples.range(1, 5)) {
                for (int rows : Samples.range(1, 5)) {
                    if (symmetry != RollerLeaf.QUARTER || columns == rows) {
                        motif(columns, rows, symmetry);
                    }
                }
            }
        }
    }

    private static void motif(int columns, int rows, int symmetry) {
        String what = columns + " by " + rows + ", " + NAMES[symmetry] + ": ";
        RollerLeaf works = new RollerLeaf();
        checks.equal(what + "pattern", 0, () -> works.pattern(columns, rows, symmetry));
        checks.equal(what + "columns", columns * COLUMN_TIMES[symmetry], () -> works.repeat(0, false));
        checks.equal(what + "rows", rows * ROW_TIMES[symmetry], () -> works.repeat(0, true));
        for (int x : Samples.range(0, 2 * columns - 1)) {
            for (int y : Samples.range(0, 2 * rows - 1)) {
                checks.equal(what + "cell " + x + ", " + y, 0, () -> works.colour(0, x, y));
            }
        }
        checks.equal(what + "the last cell of the motif", 0, () -> works.paint(0, columns - 1, rows - 1, 7));
        checks.equal(what + "the last cell, painted", 7, () -> works.paint(0, columns - 1, rows - 1, 0));
        checks.outside(what + "a cell right of it", () -> Samples.painted(columns, rows, symmetry),
            w -> w.paint(0, columns, 0, 1));
        checks.outside(what + "a cell below it", () -> Samples.painted(columns, rows, symmetry),
            w -> w.paint(0, 0, rows, 1));
    }

    private static void shifted() {
        checks.sentence("Patterns", "SHIFT: w columns, h rows: the motif itself;");
        shows(1, 1, RollerLeaf.SHIFT, "1");
        shows(2, 3, RollerLeaf.SHIFT, "12", "34", "56");
        shows(5, 5, RollerLeaf.SHIFT, "12345", "67012", "34567", "01234", "56701");
    }

    private static void turned() {
        checks.sentence("Patterns", "TURN: w columns, 2 h rows: the lower half is the motif turned by a half: its cell"
            + " x, y is that at w less 1 less x, h less 1 less y of the motif;");
        shows(1, 1, RollerLeaf.TURN, "1", "1");
        shows(1, 3, RollerLeaf.TURN, "1", "2", "3", "3", "2", "1");
        shows(3, 1, RollerLeaf.TURN, "123", "321");
        shows(2, 3, RollerLeaf.TURN, "12", "34", "56", "65", "43", "21");
        shows(5, 5, RollerLeaf.TURN, "12345", "67012", "34567", "01234", "56701",
            "10765", "43210", "76543", "21076", "54321");
    }

    private static void mirrored() {
        checks.sentence("Patterns", "MIRROR: 2 w columns, h rows: the right half is the motif, left and right changed"
            + " for one another;");
        shows(1, 1, RollerLeaf.MIRROR, "11");
        shows(1, 3, RollerLeaf.MIRROR, "11", "22", "33");
        shows(3, 1, RollerLeaf.MIRROR, "123321");
        shows(2, 3, RollerLeaf.MIRROR, "1221", "3443", "5665");
        shows(5, 5, RollerLeaf.MIRROR, "1234554321", "6701221076", "3456776543", "0123443210", "5670110765");
    }

    private static void gliding() {
        checks.sentence("Patterns", "GLIDE: 2 w columns, h rows: the right half is the motif, above and below changed"
            + " for one another;");
        shows(1, 1, RollerLeaf.GLIDE, "11");
        shows(1, 3, RollerLeaf.GLIDE, "13", "22", "31");
        shows(3, 1, RollerLeaf.GLIDE, "123123");
        shows(2, 3, RollerLeaf.GLIDE, "1256", "3434", "5612");
        shows(5, 5, RollerLeaf.GLIDE, "1234556701", "6701201234", "3456734567", "0123467012", "5670112345");
    }

    private static void both() {
        checks.sentence("Patterns", "BOTH: 2 w columns, 2 h rows: the right half as in MIRROR, and the lower half is the"
            + " upper one, above and below changed for one another;");
        shows(1, 1, RollerLeaf.BOTH, "11", "11");
        shows(1, 3, RollerLeaf.BOTH, "11", "22", "33", "33", "22", "11");
        shows(3, 1, RollerLeaf.BOTH, "123321", "123321");
        shows(2, 3, RollerLeaf.BOTH, "1221", "3443", "5665", "5665", "3443", "1221");
        shows(5, 5, RollerLeaf.BOTH, "1234554321", "6701221076", "3456776543", "0123443210", "5670110765",
            "5670110765", "0123443210", "3456776543", "6701221076", "1234554321");
    }

    private static void quartered() {
        checks.sentence("Patterns", "QUARTER: of w columns and as many rows alone, 2 w columns and rows: the right upper"
            + " quarter has at x, y the motif's cell at y, w less 1 less x; the lower right one the motif turned by a"
            + " half; the lower left one has at x, y the motif's cell at w less 1 less y, x.");
        shows(1, 1, RollerLeaf.QUARTER, "11", "11");
        shows(2, 2, RollerLeaf.QUARTER, "1231", "3442", "2443", "1321");
        shows(3, 3, RollerLeaf.QUARTER, "123741", "456052", "701163", "361107", "250654", "147321");
        shows(5, 5, RollerLeaf.QUARTER, "1234550361", "6701261472", "3456772503", "0123403614", "5670114725",
            "5274110765", "4163043210", "3052776543", "2741621076", "1630554321");
        for (int columns : Samples.range(1, 5)) {
            for (int rows : Samples.range(1, 5)) {
                String what = columns + " by " + rows;
                if (columns == rows) {
                    checks.equal(what, 0, () -> new RollerLeaf().pattern(columns, rows, RollerLeaf.QUARTER));
                } else {
                    checks.badArgument(what, RollerLeaf::new, w -> w.pattern(columns, rows, RollerLeaf.QUARTER));
                }
            }
        }
    }

    private static void withoutEnd() {
        checks.sentence("Patterns", "It goes on without end, in both directions, by a repeat of some columns and rows;"
            + " cells of the repeat are those of the motif, at x and y, and for others:");
        for (int symmetry : Samples.range(RollerLeaf.SHIFT, RollerLeaf.QUARTER)) {
            RollerLeaf works = Samples.painted(3, 3, symmetry);
            int columns = 3 * COLUMN_TIMES[symmetry];
            int rows = 3 * ROW_TIMES[symmetry];
            int[] far = {-1, 0, 1, -columns, columns - 1, columns, -rows, rows - 1, rows,
                LOWEST, LOWEST + 1, HIGHEST - 1, HIGHEST};
            for (int x : far) {
                for (int y : far) {
                    int due = works.colour(0, Math.floorMod(x, columns), Math.floorMod(y, rows));
                    checks.equal(NAMES[symmetry] + " at " + x + ", " + y, due, () -> works.colour(0, x, y));
                }
            }
        }
    }

    // ---- promise 2

    private static void patternArguments() {
        checks.sentence("Promise 2: pattern", "`columns`: 1 to 5");
        checks.equal("1", 0, () -> new RollerLeaf().pattern(1, 2, RollerLeaf.SHIFT));
        checks.equal("5", 0, () -> new RollerLeaf().pattern(5, 2, RollerLeaf.SHIFT));
        for (int columns : new int[] {0, 6, -1, LOWEST, HIGHEST}) {
            checks.badArgument("" + columns, RollerLeaf::new, works -> works.pattern(columns, 2, RollerLeaf.SHIFT));
        }
        checks.sentence("Promise 2: pattern", "`rows`: 1 to 5");
        checks.equal("1", 0, () -> new RollerLeaf().pattern(2, 1, RollerLeaf.SHIFT));
        checks.equal("5", 0, () -> new RollerLeaf().pattern(2, 5, RollerLeaf.SHIFT));
        for (int rows : new int[] {0, 6, -1, LOWEST, HIGHEST}) {
            checks.badArgument("" + rows, RollerLeaf::new, works -> works.pattern(2, rows, RollerLeaf.SHIFT));
        }
        checks.sentence("Promise 2: pattern", "`symmetry`: SHIFT to QUARTER");
        for (int symmetry : Samples.range(0, 5)) {
            checks.equal("" + symmetry, 0, () -> new RollerLeaf().pattern(2, 2, symmetry));
        }
        for (int symmetry : new int[] {-1, 6, LOWEST, HIGHEST}) {
            checks.badArgument("" + symmetry, RollerLeaf::new, works -> works.pattern(2, 2, symmetry));
        }
    }

    private static void patternsNumber() {
        checks.sentence("Promise 2: pattern", "Returns its number.");
        RollerLeaf works = new RollerLeaf();
        checks.equal("the first", 0, () -> works.pattern(1, 2, RollerLeaf.SHIFT));
        checks.equal("the second", 1, () -> works.pattern(3, 4, RollerLeaf.SHIFT));
        checks.equal("the first's columns", 1, () -> works.repeat(0, false));
        checks.equal("the second's rows", 4, () -> works.repeat(1, true));
        checks.equal("the last", 5, () -> withPatterns(5).pattern(1, 1, RollerLeaf.SHIFT));
    }

    private static void patternExceptions() {
        checks.sentence("Promise 2: pattern", "Throws `IllegalArgumentException` if an argument is out of range, or"
            + " columns and rows are unlike for QUARTER");
        int[][] wrong = {{0, 0, 0}, {6, 6, 5}, {0, 0, 5}, {4, 5, 5}, {5, 4, 5}, {1, 2, 5}, {2, 1, 5}, {6, 5, 5}, {1, 1, 7}};
        for (int[] w : wrong) {
            checks.badArgument(w[0] + ", " + w[1] + ", " + w[2], () -> withPatterns(2),
                works -> works.pattern(w[0], w[1], w[2]));
            checks.badArgument(w[0] + ", " + w[1] + ", " + w[2] + " of 6", () -> withPatterns(6),
                works -> works.pattern(w[0], w[1], w[2]));
        }
        RollerLeaf works = withPatterns(0);
        checks.equal("4 and 5 are unlike, but for BOTH", 0, () -> works.pattern(4, 5, RollerLeaf.BOTH));
        checks.sentence("Promise 2: pattern", "Throws `IllegalStateException` if there are 6");
        checks.equal("there are 5", 5, () -> withPatterns(5).pattern(2, 2, RollerLeaf.QUARTER));
        checks.badState("there are 6", () -> withPatterns(6), w -> w.pattern(2, 2, RollerLeaf.QUARTER));
    }

    // ---- promise 3

    private static void paintedColours() {
        checks.sentence("Promise 3: paint", "`colour`: 0 to 7");
        RollerLeaf works = new RollerLeaf();
        works.pattern(2, 2, RollerLeaf.SHIFT);
        for (int colour : Samples.range(0, 7)) {
            works.paint(0, 1, 0, colour);
            checks.equal("colour " + colour, colour, () -> works.colour(0, 1, 0));
        }
        checks.sentence("Promise 3: paint", "Throws `IllegalArgumentException` if colour is out of range");
        for (int colour : new int[] {-1, 8, LOWEST, HIGHEST}) {
            checks.badArgument("" + colour, () -> Samples.painted(2, 3, RollerLeaf.BOTH),
                w -> w.paint(0, 0, 0, colour));
        }
    }

    private static void colourBefore() {
        checks.sentence("Promise 3: paint", "Returns the colour before.");
        RollerLeaf works = new RollerLeaf();
        works.pattern(2, 3, RollerLeaf.TURN);
        works.pattern(2, 3, RollerLeaf.TURN);
        checks.equal("at first", 0, () -> works.paint(0, 1, 2, 7));
        checks.equal("the same again", 7, () -> works.paint(0, 1, 2, 7));
        checks.equal("0 after 7", 7, () -> works.paint(0, 1, 2, 0));
        checks.equal("5 after 0", 0, () -> works.paint(0, 1, 2, 5));
        checks.equal("another cell", 0, () -> works.paint(0, 0, 0, 1));
        checks.equal("another pattern", 0, () -> works.paint(1, 1, 2, 3));
        checks.equal("the cell goes into the motif", 5, () -> works.colour(0, 1, 2));
        checks.equal("and into what the symmetry makes of it", 5, () -> works.colour(0, 0, 3));
    }

    private static void paintExceptions() {
        checks.sentence("Promise 3: paint", "Throws `IndexOutOfBoundsException` as told, of the pattern and the cell");
        // The repeat has 4 columns and 6 rows: a cell of it need not be one of the motif.
        Checks.World world = () -> Samples.painted(2, 3, RollerLeaf.BOTH);
        int[][] cells = {{2, 0}, {3, 0}, {-1, 0}, {4, 0}, {0, 3}, {0, 5}, {0, -1}, {0, 6}, {2, 3},
            {LOWEST, 0}, {HIGHEST, 0}, {0, LOWEST}, {0, HIGHEST}};
        for (int[] cell : cells) {
            checks.outside("cell " + cell[0] + ", " + cell[1], world, works -> works.paint(0, cell[0], cell[1], 1));
            checks.outside("cell " + cell[0] + ", " + cell[1] + ", no colour", world,
                works -> works.paint(0, cell[0], cell[1], 8));
        }
        for (int pattern : NO_PATTERNS) {
            checks.outside("pattern " + pattern, world, works -> works.paint(pattern, 0, 0, 1));
            checks.outside("pattern " + pattern + ", no colour", world, works -> works.paint(pattern, 0, 0, -1));
        }
        for (int x : Samples.range(0, 1)) {
            for (int y : Samples.range(0, 2)) {
                checks.equal("cell " + x + ", " + y, y * 2 + x + 1, () -> world.make().paint(0, x, y, 0));
            }
        }
    }

    // ---- promises 4 to 6

    private static void anyColumnAndRow() {
        RollerLeaf works = Samples.painted(3, 3, RollerLeaf.TURN);
        String[] rows = {"123", "456", "701", "107", "654", "321"};
        checks.sentence("Promise 4: colour", "`x`: any column, also below 0");
        for (int x : new int[] {-1, -3, -4, 0, 2, 3, 4, LOWEST, HIGHEST}) {
            checks.equal("column " + x, rows[1].charAt(Math.floorMod(x, 3)) - '0', () -> works.colour(0, x, 1));
        }
        checks.sentence("Promise 4: colour", "`y`: any row, also below 0");
        for (int y : new int[] {-1, -3, -4, -6, -7, 0, 5, 6, 7, LOWEST, HIGHEST}) {
            checks.equal("row " + y, rows[Math.floorMod(y, 6)].charAt(2) - '0', () -> works.colour(0, 2, y));
        }
    }

    private static void repeatBySymmetry() {
        checks.sentence("Promise 5: repeat", "Returns the columns, or rows, of the repeat of a pattern, by its symmetry.");
        for (int symmetry : Samples.range(RollerLeaf.SHIFT, RollerLeaf.QUARTER)) {
            int rows = symmetry == RollerLeaf.QUARTER ? 4 : 3;
            RollerLeaf works = Samples.painted(4, rows, symmetry);
            checks.equal(NAMES[symmetry] + ", columns", 4 * COLUMN_TIMES[symmetry], () -> works.repeat(0, false));
            checks.equal(NAMES[symmetry] + ", rows", rows * ROW_TIMES[symmetry], () -> works.repeat(0, true));
        }
        RollerLeaf plain = new RollerLeaf();
        plain.pattern(5, 5, RollerLeaf.BOTH);
        checks.equal("columns of one colour", 10, () -> plain.repeat(0, false));
        checks.equal("rows of one colour", 10, () -> plain.repeat(0, true));
    }

    private static void repeatFoundAnew() {
        checks.sentence("Promise 6: repeatAnew", "Returns by how many columns, or rows, at least, the pattern can be moved"
            + " so that all its cells are as before, found by holding all cells of a repeat against one another.");
        anew("BOTH, one cell painted", 8, 10, drawn(RollerLeaf.BOTH, "1000", "0000", "0000", "0000", "0000"));
        anew("BOTH, both ends of a row", 4, 10, drawn(RollerLeaf.BOTH, "1001", "0000", "0000", "0000", "0000"));
        anew("BOTH, but for one cell", 8, 10, drawn(RollerLeaf.BOTH, "1001", "0000", "0000", "0000", "1000"));
        anew("BOTH, all four corners", 4, 5, drawn(RollerLeaf.BOTH, "1001", "0000", "0000", "0000", "1001"));
        anew("SHIFT, half of its columns", 2, 1, drawn(RollerLeaf.SHIFT, "0202"));
        anew("SHIFT, half of its rows", 1, 2, drawn(RollerLeaf.SHIFT, "3", "0", "3", "0"));
        anew("SHIFT, a move that does not divide its columns", 3, 1, drawn(RollerLeaf.SHIFT, "202"));
        anew("SHIFT, a move that does not divide its rows", 1, 5, drawn(RollerLeaf.SHIFT, "4", "0", "4", "0", "4"));
        anew("SHIFT, stripes across", 1, 4, drawn(RollerLeaf.SHIFT, "111", "222", "111", "333"));
        anew("SHIFT, stripes down", 3, 1, drawn(RollerLeaf.SHIFT, "123", "123", "123", "123"));
        anew("TURN, one row", 2, 2, drawn(RollerLeaf.TURN, "12"));
        anew("TURN, one row, alike from both ends", 3, 1, drawn(RollerLeaf.TURN, "121"));
        anew("TURN, alike when turned", 2, 2, drawn(RollerLeaf.TURN, "12", "21"));
        anew("TURN, stripes across", 1, 4, drawn(RollerLeaf.TURN, "11", "22"));
        anew("MIRROR, one row", 4, 1, drawn(RollerLeaf.MIRROR, "12"));
        anew("MIRROR, alike from both ends", 3, 1, drawn(RollerLeaf.MIRROR, "121"));
        anew("GLIDE, one corner against another", 4, 2, drawn(RollerLeaf.GLIDE, "10", "01"));
        anew("GLIDE, alike above and below", 2, 1, drawn(RollerLeaf.GLIDE, "12", "12"));
        anew("QUARTER, one corner against another", 4, 4, drawn(RollerLeaf.QUARTER, "10", "01"));
    }

    private static void repeatAnewOfAllCells() {
        for (int x : Samples.range(0, 4)) {
            for (int y : Samples.range(0, 4)) {
                RollerLeaf works = new RollerLeaf();
                works.pattern(5, 5, RollerLeaf.SHIFT);
                works.pattern(5, 5, RollerLeaf.BOTH);
                works.paint(0, x, y, 1);
                works.paint(1, x, y, 1);
                String what = "one cell painted, " + x + ", " + y;
                checks.equal(what + ", SHIFT, columns", 5, () -> works.repeatAnew(0, false));
                checks.equal(what + ", SHIFT, rows", 5, () -> works.repeatAnew(0, true));
                // The middle one and its likeness are half a repeat from each other.
                checks.equal(what + ", BOTH, columns", x == 2 ? 5 : 10, () -> works.repeatAnew(1, false));
                checks.equal(what + ", BOTH, rows", y == 2 ? 5 : 10, () -> works.repeatAnew(1, true));
            }
        }
    }

    private static void repeatAnewIsOneOrMore() {
        checks.sentence("Promise 6: repeatAnew", "Returns the number, 1 or more.");
        anew("the least motif", 1, 1, drawn(RollerLeaf.SHIFT, "0"));
        for (int symmetry : Samples.range(RollerLeaf.SHIFT, RollerLeaf.QUARTER)) {
            anew(NAMES[symmetry] + " of one colour", 1, 1, drawn(symmetry, "333", "333", "333"));
        }
        anew("the longest", 10, 10, drawn(RollerLeaf.QUARTER, "10000", "00000", "00000", "00000", "00000"));
    }

    private static void noSuchPattern() {
        Checks.World world = () -> Samples.painted(2, 2, RollerLeaf.SHIFT);
        for (int number : NO_PATTERNS) {
            checks.sentence("Promise 4: colour", "Throws `IndexOutOfBoundsException` as told");
            checks.outside("colour of pattern " + number, world, works -> works.colour(number, 0, 0));
            checks.sentence("Promise 5: repeat", "Throws `IndexOutOfBoundsException` as told");
            checks.outside("columns of pattern " + number, world, works -> works.repeat(number, false));
            checks.outside("rows of pattern " + number, world, works -> works.repeat(number, true));
            checks.sentence("Promise 6: repeatAnew", "Throws `IndexOutOfBoundsException` as told");
            checks.outside("columns anew of pattern " + number, world, works -> works.repeatAnew(number, false));
            checks.outside("rows anew of pattern " + number, world, works -> works.repeatAnew(number, true));
        }
    }

    // ---- what the tests share

    private static RollerLeaf withPatterns(int count) {
        RollerLeaf works = new RollerLeaf();
        for (int number = 0; number < count; number++) {
            works.pattern(2, 2, RollerLeaf.SHIFT);
        }
        return works;
    }

    /** A pattern 0 whose motif is drawn with figures, row by row. */
    private static RollerLeaf drawn(int symmetry, String... rows) {
        RollerLeaf works = new RollerLeaf();
        works.pattern(rows[0].length(), rows.length, symmetry);
        for (int y = 0; y < rows.length; y++) {
            for (int x = 0; x < rows[y].length(); x++) {
                works.paint(0, x, y, rows[y].charAt(x) - '0');
            }
        }
        return works;
    }

    private static void anew(String what, int columns, int rows, RollerLeaf works) {
        checks.equal(what + ": columns anew", columns, () -> works.repeatAnew(0, false));
        checks.equal(what + ": rows anew", rows, () -> works.repeatAnew(0, true));
    }

    /** The painted motif of that size and symmetry has just this repeat. */
    private static void shows(int columns, int rows, int symmetry, String... repeat) {
        String what = columns + " by " + rows + ": ";
        RollerLeaf works = Samples.painted(columns, rows, symmetry);
        checks.equal(what + "columns", repeat[0].length(), () -> works.repeat(0, false));
        checks.equal(what + "rows", repeat.length, () -> works.repeat(0, true));
        for (int y : Samples.range(0, repeat.length - 1)) {
            for (int x : Samples.range(0, repeat[y].length() - 1)) {
                checks.equal(what + "cell " + x + ", " + y, repeat[y].charAt(x) - '0', () -> works.colour(0, x, y));
            }
        }
    }
}
