/** Objects that several tests begin with, and numbers that are out of every range. */
final class Samples {
    static final int LOWEST = Integer.MIN_VALUE;
    static final int HIGHEST = Integer.MAX_VALUE;
    static final int[] NO_ROOMS = {-1, 4, LOWEST, HIGHEST};

    private Samples() {
    }

    /** The numbers from the first to the last. */
    static int[] range(int first, int last) {
        return java.util.stream.IntStream.rangeClosed(first, last).toArray();
    }

    /** A pattern 0 whose motif has the colours 1, 2, .. 7, 0, 1 .. row by row. */
    static RollerLeaf painted(int columns, int rows, int symmetry) {
        RollerLeaf works = new RollerLeaf();
        works.pattern(columns, rows, symmetry);
        for (int y = 0; y < rows; y++) {
            for (int x = 0; x < columns; x++) {
                works.paint(0, x, y, (y * columns + x + 1) % 8);
            }
        }
        return works;
    }

    /** A roller 0 of the pattern 0, which is painted, of 2 columns and some rows, 1 to 5, or 6, 8 or 10 by TURN. */
    static RollerLeaf withRoller(int repeatRows, int round) {
        boolean turned = repeatRows > 5;
        RollerLeaf works = painted(2, turned ? repeatRows / 2 : repeatRows, turned ? RollerLeaf.TURN : RollerLeaf.SHIFT);
        works.roller(0, round);
        return works;
    }

    /** A lot 0 of a roller whose round is one repeat. */
    static RollerLeaf withLot(int repeatRows, int rolls, int length) {
        RollerLeaf works = withRoller(repeatRows, repeatRows);
        works.lot(0, 0, rolls, length);
        return works;
    }

    /** Walls of a room, each by its drops and its height. */
    static RollerLeaf withWalls(RollerLeaf works, int room, int... walls) {
        for (int wall = 0; wall + 1 < walls.length; wall += 2) {
            works.wall(room, walls[wall], walls[wall + 1]);
        }
        return works;
    }

    /** The room 0 with those walls, hung from the lot 0. */
    static RollerLeaf hung(RollerLeaf works, int... walls) {
        withWalls(works, 0, walls).hang(0, 0);
        return works;
    }

    /** A room 0 of 13 drops that opens 4 rolls by the phase 0, and 3 by 6; the repeat has 10 rows. */
    static RollerLeaf withPhasedRoom(int rolls) {
        return withWalls(withLot(10, rolls, 162), 0, 1, 32, 4, 57, 2, 21, 7, 16);
    }
}
