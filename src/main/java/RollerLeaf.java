/**
 * A wallpaper works: patterns made from motifs by a symmetry, rollers that are engraved with them,
 * lots of printed rolls, and rooms whose walls are hung with drops cut from the rolls of one lot.
 */
public final class RollerLeaf {
    public static final int NONE = -1;
    public static final int SHIFT = 0, TURN = 1, MIRROR = 2, GLIDE = 3, BOTH = 4, QUARTER = 5;

    private static final int MOST_PATTERNS = 6;
    private static final int MOST_MOTIF_SIDE = 5;
    private static final int MOST_REPEAT_SIDE = 2 * MOST_MOTIF_SIDE;
    private static final int MOST_COLOUR = 7;
    private static final int MOST_ROLLERS = 8;
    private static final int MOST_ROUND = 60;
    private static final int MOST_LOTS = 10;
    private static final int MOST_DYE = 9;
    private static final int MOST_ROLLS = 20;
    private static final int MOST_LENGTH = 200;
    private static final int ROOMS = 4;
    private static final int MOST_WALLS = 4;
    private static final int MOST_NEW_DROPS = 12;
    private static final int MOST_DROPS = 24;
    private static final int MOST_HEIGHT = 60;
    private static final int CUT_ROLL_UNIT = 1000;

    private final Pattern[] patterns = new Pattern[MOST_PATTERNS];
    private int patternCount;
    private final Roller[] rollers = new Roller[MOST_ROLLERS];
    private int rollerCount;
    private final Lot[] lots = new Lot[MOST_LOTS];
    private int lotCount;
    private final Room[] rooms = new Room[ROOMS];
    private int lostRows;

    public RollerLeaf() {
        for (int number = 0; number < rooms.length; number++) {
            rooms[number] = new Room();
        }
    }

    // ---- patterns

    public int pattern(int columns, int rows, int symmetry)
            throws IllegalArgumentException, IllegalStateException {
        requireWithin(columns, 1, MOST_MOTIF_SIDE);
        requireWithin(rows, 1, MOST_MOTIF_SIDE);
        requireWithin(symmetry, SHIFT, QUARTER);
        if (symmetry == QUARTER && columns != rows) {
            throw new IllegalArgumentException("a motif for QUARTER is square");
        }
        int number = patternCount;
        if (number < 0 || number >= patterns.length) {
            throw new IllegalStateException("no more patterns");
        }
        patterns[number] = new Pattern(columns, rows, symmetry);
        patternCount = number + 1;
        return number;
    }

    public int paint(int pattern, int x, int y, int colour)
            throws IndexOutOfBoundsException, IllegalArgumentException {
        Pattern painted = patternAt(pattern);
        if (!painted.motif.holds(x, y)) {
            throw new IndexOutOfBoundsException("no such cell of the motif");
        }
        requireWithin(colour, 0, MOST_COLOUR);
        int before = painted.motif.colourAt(x, y);
        painted.motif.put(x, y, colour);
        return before;
    }

    public int colour(int pattern, int x, int y) throws IndexOutOfBoundsException {
        return patternAt(pattern).colourAt(x, y);
    }

    public int repeat(int pattern, boolean rows) throws IndexOutOfBoundsException {
        Pattern asked = patternAt(pattern);
        return rows ? asked.repeatRows : asked.repeatColumns;
    }

    public int repeatAnew(int pattern, boolean rows) throws IndexOutOfBoundsException {
        return patternAt(pattern).leastMove(rows);
    }

    // ---- rollers, lots

    public int roller(int pattern, int round)
            throws IndexOutOfBoundsException, IllegalArgumentException, IllegalStateException {
        Pattern engraved = patternAt(pattern);
        requireWithin(round, 1, MOST_ROUND);
        if (wrapped(round, engraved.repeatRows) != 0) {
            throw new IllegalStateException("the round does not hold the repeat");
        }
        int number = rollerCount;
        if (number < 0 || number >= rollers.length) {
            throw new IllegalStateException("no more rollers");
        }
        rollers[number] = new Roller(round, engraved.drawn());
        rollerCount = number + 1;
        return number;
    }

    public int lot(int roller, int dye, int rolls, int length)
            throws IndexOutOfBoundsException, IllegalArgumentException, IllegalStateException {
        Roller printing = rollerAt(roller);
        requireWithin(dye, 0, MOST_DYE);
        requireWithin(rolls, 1, MOST_ROLLS);
        requireWithin(length, 1, MOST_LENGTH);
        int number = lotCount;
        if (number < 0 || number >= lots.length) {
            throw new IllegalStateException("no more lots");
        }
        lots[number] = new Lot(printing, roller, dye, rolls, length);
        lotCount = number + 1;
        return number;
    }

    public int lotOf(int lot, int what) throws IndexOutOfBoundsException, IllegalArgumentException {
        Lot asked = lotAt(lot);
        switch (what) {
            case 0:
                return asked.rollerNumber;
            case 1:
                return asked.dye;
            case 2:
                return asked.rollsLeft;
            case 3:
                return asked.length;
            case 4:
                return asked.roundsOfARoll();
            default:
                throw new IllegalArgumentException("no such number of a lot");
        }
    }

    // ---- rooms

    public int wall(int room, int drops, int height)
            throws IndexOutOfBoundsException, IllegalArgumentException, IllegalStateException {
        Room widened = roomAt(room);
        requireWithin(drops, 1, MOST_NEW_DROPS);
        requireWithin(height, 1, MOST_HEIGHT);
        if (widened.isHung()) {
            throw new IllegalStateException("the room is hung");
        }
        int number = widened.addWall(drops, height);
        if (number == NONE) {
            throw new IllegalStateException("no more walls");
        }
        return number;
    }

    public int hang(int room, int lot) throws IndexOutOfBoundsException, IllegalStateException {
        Room hung = roomAt(room);
        Lot source = lotAt(lot);
        if (hung.isHung()) {
            throw new IllegalStateException("the room is hung");
        }
        if (hung.wallCount == 0) {
            throw new IllegalStateException("the room has no wall");
        }
        int phase = hung.bestPhase(source);
        if (phase == NONE) {
            throw new IllegalStateException("the lot has too few rolls");
        }
        return hung.hangFrom(source, lot, phase);
    }

    public int lengthen(int room, int wall, int drops)
            throws IndexOutOfBoundsException, IllegalArgumentException, IllegalStateException {
        Room asked = roomAt(room);
        Wall longer = wallAt(asked, wall);
        requireWithin(drops, 1, MOST_NEW_DROPS);
        Lot source = asked.lot;
        if (source == null) {
            throw new IllegalStateException("the room is bare");
        }
        if (longer.drops + drops > MOST_DROPS) {
            throw new IllegalStateException("the wall would be too long");
        }
        int openedBefore = asked.rolls.opened;
        if (asked.lengthenFrom(source, longer, drops)) {
            return asked.rolls.opened - openedBefore;
        }
        lose(source, openedBefore);
        asked.makeBare();
        return NONE;
    }

    public int strip(int room) throws IndexOutOfBoundsException, IllegalStateException {
        Room stripped = roomAt(room);
        Lot source = stripped.lot;
        if (source == null) {
            throw new IllegalStateException("the room is bare");
        }
        int opened = stripped.rolls.opened;
        lose(source, opened);
        stripped.makeBare();
        return opened;
    }

    public int room(int room, int what) throws IndexOutOfBoundsException, IllegalArgumentException {
        Room asked = roomAt(room);
        switch (what) {
            case 0:
                return asked.wallCount;
            case 1:
                return asked.allDrops();
            case 2:
                return asked.isHung() ? asked.lotNumber : NONE;
            case 3:
                return asked.isHung() ? asked.rolls.phase : NONE;
            case 4:
                return asked.isHung() ? asked.rolls.opened : NONE;
            case 5:
                return asked.waste();
            default:
                throw new IllegalArgumentException("no such number of a room");
        }
    }

    public int cut(int room, int wall, int drop) throws IndexOutOfBoundsException {
        Room asked = roomAt(room);
        Wall cutFor = wallAt(asked, wall);
        if (drop < 0 || drop >= cutFor.drops || drop >= cutFor.cuts.length) {
            throw new IndexOutOfBoundsException("no such drop");
        }
        return asked.isHung() ? cutFor.cuts[drop] : NONE;
    }

    public int seen(int room, int wall, int x, int y) throws IndexOutOfBoundsException {
        Room asked = roomAt(room);
        Wall looked = wallAt(asked, wall);
        Lot source = asked.lot;
        if (source == null) {
            return NONE;
        }
        Cells engraving = source.roller.engraving;
        if (x < 0 || x >= looked.drops * engraving.columns || y < 0 || y >= looked.height) {
            throw new IndexOutOfBoundsException("no such cell of the wall");
        }
        return engraving.colourAt(x, asked.rolls.phase + y);
    }

    public int lost() {
        return lostRows;
    }

    // ---- what the calls share

    private Pattern patternAt(int number) {
        Pattern found = number < 0 || number >= patterns.length ? null : patterns[number];
        if (found == null) {
            throw new IndexOutOfBoundsException("no such pattern");
        }
        return found;
    }

    private Roller rollerAt(int number) {
        Roller found = number < 0 || number >= rollers.length ? null : rollers[number];
        if (found == null) {
            throw new IndexOutOfBoundsException("no such roller");
        }
        return found;
    }

    private Lot lotAt(int number) {
        Lot found = number < 0 || number >= lots.length ? null : lots[number];
        if (found == null) {
            throw new IndexOutOfBoundsException("no such lot");
        }
        return found;
    }

    private Room roomAt(int number) {
        Room found = number < 0 || number >= rooms.length ? null : rooms[number];
        if (found == null) {
            throw new IndexOutOfBoundsException("no such room");
        }
        return found;
    }

    private static Wall wallAt(Room room, int number) {
        Wall found = number < 0 || number >= room.walls.length ? null : room.walls[number];
        if (found == null) {
            throw new IndexOutOfBoundsException("no such wall");
        }
        return found;
    }

    private static void requireWithin(int value, int least, int most) {
        if (value < least || value > most) {
            throw new IllegalArgumentException("an argument is out of range");
        }
    }

    private void lose(Lot lot, int rolls) {
        lostRows += rolls * lot.length;
    }

    private static int wrapped(int value, int size) {
        if (size < 1) {
            return 0;
        }
        int rest = value % size;
        return rest < 0 ? rest + size : rest;
    }

    /** A rectangle of colours that goes on without end by its own columns and rows. */
    private static final class Cells {
        private final int columns;
        private final int rows;
        // Of the largest size for all, so that no length depends on an argument.
        private final int[] colours = new int[MOST_REPEAT_SIDE * MOST_REPEAT_SIDE];

        private Cells(int columns, int rows) {
            this.columns = columns;
            this.rows = rows;
        }

        private boolean holds(int x, int y) {
            return x >= 0 && x < columns && y >= 0 && y < rows;
        }

        private int colourAt(int x, int y) {
            int index = place(x, y);
            return index < 0 || index >= colours.length ? NONE : colours[index];
        }

        private void put(int x, int y, int colour) {
            int index = place(x, y);
            if (index >= 0 && index < colours.length) {
                colours[index] = colour;
            }
        }

        private int place(int x, int y) {
            return wrapped(y, rows) * columns + wrapped(x, columns);
        }
    }

    /** A motif and the symmetry by which it becomes a repeat. */
    private static final class Pattern {
        private final Cells motif;
        private final int symmetry;
        private final int repeatColumns;
        private final int repeatRows;

        private Pattern(int columns, int rows, int symmetry) {
            this.motif = new Cells(columns, rows);
            this.symmetry = symmetry;
            boolean oneColumn = symmetry == SHIFT || symmetry == TURN;
            boolean oneRow = symmetry == SHIFT || symmetry == MIRROR || symmetry == GLIDE;
            this.repeatColumns = oneColumn ? columns : 2 * columns;
            this.repeatRows = oneRow ? rows : 2 * rows;
        }

        private int colourAt(int x, int y) {
            boolean right = wrapped(x, repeatColumns) >= motif.columns;
            boolean low = wrapped(y, repeatRows) >= motif.rows;
            int column = wrapped(x, motif.columns);
            int row = wrapped(y, motif.rows);
            if (symmetry == QUARTER && right != low) {
                int swapped = column;
                column = row;
                row = swapped;
            }
            if (flipsColumns(right, low)) {
                column = motif.columns - 1 - column;
            }
            if (flipsRows(right, low)) {
                row = motif.rows - 1 - row;
            }
            return motif.colourAt(column, row);
        }

        private boolean flipsColumns(boolean right, boolean low) {
            switch (symmetry) {
                case TURN:
                case QUARTER:
                    return low;
                case MIRROR:
                case BOTH:
                    return right;
                default:
                    return false;
            }
        }

        private boolean flipsRows(boolean right, boolean low) {
            switch (symmetry) {
                case TURN:
                case BOTH:
                    return low;
                case GLIDE:
                case QUARTER:
                    return right;
                default:
                    return false;
            }
        }

        private int leastMove(boolean byRows) {
            int most = byRows ? repeatRows : repeatColumns;
            for (int move = 1; move < most; move++) {
                if (byRows ? staysWhenMoved(0, move) : staysWhenMoved(move, 0)) {
                    return move;
                }
            }
            return most;
        }

        private boolean staysWhenMoved(int columns, int rows) {
            for (int y = 0; y < repeatRows; y++) {
                for (int x = 0; x < repeatColumns; x++) {
                    if (colourAt(x, y) != colourAt(x + columns, y + rows)) {
                        return false;
                    }
                }
            }
            return true;
        }

        private Cells drawn() {
            Cells copy = new Cells(repeatColumns, repeatRows);
            for (int y = 0; y < repeatRows; y++) {
                for (int x = 0; x < repeatColumns; x++) {
                    copy.put(x, y, colourAt(x, y));
                }
            }
            return copy;
        }
    }

    /** A round, and one repeat of a pattern as it was when the roller was made. */
    private static final class Roller {
        private final int round;
        private final Cells engraving;

        private Roller(int round, Cells engraving) {
            this.round = round;
            this.engraving = engraving;
        }
    }

    /** Rolls of one roller and dye. */
    private static final class Lot {
        private final Roller roller;
        private final int rollerNumber;
        private final int dye;
        private final int length;
        private int rollsLeft;

        private Lot(Roller roller, int rollerNumber, int dye, int rolls, int length) {
            this.roller = roller;
            this.rollerNumber = rollerNumber;
            this.dye = dye;
            this.rollsLeft = rolls;
            this.length = length;
        }

        private int roundsOfARoll() {
            int round = roller.round;
            return round < 1 ? 0 : (length + round - 1) / round;
        }
    }

    /** The rolls that are opened for one room, and where each was cut last. */
    private static final class OpenedRolls {
        private final int[] lastCuts = new int[MOST_ROLLS];
        private int opened;
        private int mostOpened;
        private int length;
        private int repeatRows;
        private int phase;

        private void beginAnew(Lot lot, int phase) {
            this.opened = 0;
            this.mostOpened = lot.rollsLeft;
            this.length = lot.length;
            this.repeatRows = lot.roller.engraving.rows;
            this.phase = phase;
        }

        /** Answers where a drop is cut, as the call cut tells it, or NONE if no roll can give it. */
        private int takeDrop(int height) {
            for (int roll = 0; roll < opened && roll < lastCuts.length; roll++) {
                int begin = lastCuts[roll] + wrapped(phase - lastCuts[roll], repeatRows);
                if (begin + height <= length) {
                    lastCuts[roll] = begin + height;
                    return CUT_ROLL_UNIT * roll + begin;
                }
            }
            return takeFromNewRoll(height);
        }

        private int takeFromNewRoll(int height) {
            int roll = opened;
            boolean hasRoll = roll >= 0 && roll < mostOpened && roll < lastCuts.length;
            if (!hasRoll || phase + height > length) {
                return NONE;
            }
            lastCuts[roll] = phase + height;
            opened = roll + 1;
            return CUT_ROLL_UNIT * roll + phase;
        }
    }

    /** Drops of one height side by side; where they were cut counts only while the room is hung. */
    private static final class Wall {
        private final int height;
        private final int[] cuts = new int[MOST_DROPS];
        private int drops;

        private Wall(int drops, int height) {
            this.drops = drops;
            this.height = height;
        }

        private boolean takeDrops(OpenedRolls rolls, int first) {
            for (int drop = Math.max(first, 0); drop < drops && drop < cuts.length; drop++) {
                cuts[drop] = rolls.takeDrop(height);
                if (cuts[drop] == NONE) {
                    return false;
                }
            }
            return true;
        }
    }

    /** Walls, and the lot and rolls that they are hung from; a bare room has no lot. */
    private static final class Room {
        private final Wall[] walls = new Wall[MOST_WALLS];
        private final OpenedRolls rolls = new OpenedRolls();
        private int wallCount;
        private Lot lot;
        private int lotNumber;

        private boolean isHung() {
            return lot != null;
        }

        private void makeBare() {
            lot = null;
        }

        /** Answers the new wall's number, or NONE if there is no place for it. */
        private int addWall(int drops, int height) {
            int number = wallCount;
            if (number < 0 || number >= walls.length) {
                return NONE;
            }
            walls[number] = new Wall(drops, height);
            wallCount = number + 1;
            return number;
        }

        /** Answers the phase that opens the fewest rolls, or NONE; only for a bare room. */
        private int bestPhase(Lot source) {
            int best = NONE;
            int fewest = MOST_ROLLS + 1;
            for (int phase = 0; phase < source.roller.engraving.rows; phase++) {
                if (cutAll(source, phase) && rolls.opened < fewest) {
                    best = phase;
                    fewest = rolls.opened;
                }
            }
            return best;
        }

        private boolean cutAll(Lot source, int phase) {
            rolls.beginAnew(source, phase);
            for (Wall wall : walls) {
                if (wall != null && !wall.takeDrops(rolls, 0)) {
                    return false;
                }
            }
            return true;
        }

        /** Hangs the room by a phase that bestPhase found; answers how many rolls are opened. */
        private int hangFrom(Lot source, int number, int phase) {
            // The search has left the cuts of the last phase that it tried.
            cutAll(source, phase);
            source.rollsLeft -= rolls.opened;
            lot = source;
            lotNumber = number;
            return rolls.opened;
        }

        /** Makes a wall longer; answers whether its new drops could be cut, and if not, leaves the lot as it was. */
        private boolean lengthenFrom(Lot source, Wall wall, int more) {
            int firstNew = wall.drops;
            int openedBefore = rolls.opened;
            rolls.mostOpened = openedBefore + source.rollsLeft;
            wall.drops = firstNew + more;
            boolean possible = wall.takeDrops(rolls, firstNew);
            if (possible) {
                source.rollsLeft -= rolls.opened - openedBefore;
            }
            return possible;
        }

        private int allDrops() {
            int sum = 0;
            for (Wall wall : walls) {
                sum += wall == null ? 0 : wall.drops;
            }
            return sum;
        }

        private int waste() {
            if (lot == null) {
                return NONE;
            }
            int rows = rolls.opened * lot.length;
            for (Wall wall : walls) {
                rows -= wall == null ? 0 : wall.drops * wall.height;
            }
            return rows;
        }
    }
}
