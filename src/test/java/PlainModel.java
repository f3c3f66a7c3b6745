import java.util.ArrayList;
import java.util.List;

/** The document once more, said as plainly as lists allow; only ModelTest uses it. */
final class PlainModel {
    private static final int NONE = -1;

    private static final class Paper {
        int[][] motif;
        int symmetry;
    }

    private static final class Engraved {
        int round;
        int[][] repeat;
    }

    private static final class Printed {
        int roller;
        int dye;
        int left;
        int length;
    }

    private static final class Side {
        int drops;
        int height;
        List<int[]> cuts = new ArrayList<>();
    }

    private static final class Space {
        List<Side> sides = new ArrayList<>();
        int lot = NONE;
        int phase;
        List<Integer> rolls = new ArrayList<>();
    }

    private final List<Paper> papers = new ArrayList<>();
    private final List<Engraved> rollers = new ArrayList<>();
    private final List<Printed> lots = new ArrayList<>();
    private final List<Space> spaces = new ArrayList<>();
    private int lost;

    PlainModel() {
        for (int i = 0; i < 4; i++) {
            spaces.add(new Space());
        }
    }

    private static void index(boolean right) {
        if (!right) {
            throw new IndexOutOfBoundsException();
        }
    }

    private static void argument(boolean right) {
        if (!right) {
            throw new IllegalArgumentException();
        }
    }

    private static void state(boolean right) {
        if (!right) {
            throw new IllegalStateException();
        }
    }

    private static <T> T of(List<T> list, int number) {
        index(number >= 0 && number < list.size());
        return list.get(number);
    }

    // A picture is an array of rows; these make pictures of pictures, as the table of symmetries tells.

    private static int[][] aboveBelow(int[][] picture) {
        int[][] out = new int[picture.length][];
        for (int y = 0; y < picture.length; y++) {
            out[y] = picture[picture.length - 1 - y].clone();
        }
        return out;
    }

    private static int[][] leftRight(int[][] picture) {
        int[][] out = new int[picture.length][picture[0].length];
        for (int y = 0; y < out.length; y++) {
            for (int x = 0; x < out[y].length; x++) {
                out[y][x] = picture[y][out[y].length - 1 - x];
            }
        }
        return out;
    }

    private static int[][] half(int[][] picture) {
        return leftRight(aboveBelow(picture));
    }

    private static int[][] beside(int[][] left, int[][] right) {
        int[][] out = new int[left.length][left[0].length + right[0].length];
        for (int y = 0; y < out.length; y++) {
            System.arraycopy(left[y], 0, out[y], 0, left[y].length);
            System.arraycopy(right[y], 0, out[y], left[y].length, right[y].length);
        }
        return out;
    }

    private static int[][] above(int[][] upper, int[][] lower) {
        int[][] out = new int[upper.length + lower.length][];
        for (int y = 0; y < out.length; y++) {
            out[y] = (y < upper.length ? upper[y] : lower[y - upper.length]).clone();
        }
        return out;
    }

    private static int[][] quarterRight(int[][] m) {
        int w = m.length;
        int[][] out = new int[w][w];
        for (int y = 0; y < w; y++) {
            for (int x = 0; x < w; x++) {
                out[y][x] = m[w - 1 - x][y];
            }
        }
        return out;
    }

    private static int[][] quarterLeft(int[][] m) {
        return half(quarterRight(m));
    }

    private static int[][] repeatOf(Paper paper) {
        int[][] m = paper.motif;
        switch (paper.symmetry) {
            case 0: return above(m, new int[0][]);
            case 1: return above(m, half(m));
            case 2: return beside(m, leftRight(m));
            case 3: return beside(m, aboveBelow(m));
            case 4: return above(beside(m, leftRight(m)), aboveBelow(beside(m, leftRight(m))));
            default: return above(beside(m, quarterRight(m)), beside(quarterLeft(m), half(m)));
        }
    }

    int pattern(int columns, int rows, int symmetry) {
        argument(columns >= 1 && columns <= 5 && rows >= 1 && rows <= 5 && symmetry >= 0 && symmetry <= 5);
        argument(symmetry != 5 || columns == rows);
        state(papers.size() < 6);
        Paper made = new Paper();
        made.motif = new int[rows][columns];
        made.symmetry = symmetry;
        papers.add(made);
        return papers.size() - 1;
    }

    int paint(int pattern, int x, int y, int colour) {
        Paper paper = of(papers, pattern);
        index(y >= 0 && y < paper.motif.length && x >= 0 && x < paper.motif[0].length);
        argument(colour >= 0 && colour <= 7);
        int before = paper.motif[y][x];
        paper.motif[y][x] = colour;
        return before;
    }

    int colour(int pattern, int x, int y) {
        int[][] repeat = repeatOf(of(papers, pattern));
        return repeat[Math.floorMod(y, repeat.length)][Math.floorMod(x, repeat[0].length)];
    }

    int repeat(int pattern, boolean rows) {
        int[][] repeat = repeatOf(of(papers, pattern));
        return rows ? repeat.length : repeat[0].length;
    }

    int repeatAnew(int pattern, boolean rows) {
        int[][] repeat = repeatOf(of(papers, pattern));
        int move = 0;
        boolean same;
        do {
            move++;
            same = true;
            for (int y = 0; y < repeat.length; y++) {
                for (int x = 0; x < repeat[0].length; x++) {
                    int other = rows ? repeat[(y + move) % repeat.length][x] : repeat[y][(x + move) % repeat[0].length];
                    same &= repeat[y][x] == other;
                }
            }
        } while (!same);
        return move;
    }

    int roller(int pattern, int round) {
        int[][] repeat = repeatOf(of(papers, pattern));
        argument(round >= 1 && round <= 60);
        state(round % repeat.length == 0 && rollers.size() < 8);
        Engraved made = new Engraved();
        made.round = round;
        made.repeat = repeat;
        rollers.add(made);
        return rollers.size() - 1;
    }

    int lot(int roller, int dye, int rolls, int length) {
        of(rollers, roller);
        argument(dye >= 0 && dye <= 9 && rolls >= 1 && rolls <= 20 && length >= 1 && length <= 200);
        state(lots.size() < 10);
        Printed made = new Printed();
        made.roller = roller;
        made.dye = dye;
        made.left = rolls;
        made.length = length;
        lots.add(made);
        return lots.size() - 1;
    }

    int lotOf(int lot, int what) {
        Printed asked = of(lots, lot);
        argument(what >= 0 && what <= 4);
        int rounds = 0;
        while (rounds * rollers.get(asked.roller).round < asked.length) {
            rounds++;
        }
        return new int[] {asked.roller, asked.dye, asked.left, asked.length, rounds}[what];
    }

    int wall(int room, int drops, int height) {
        Space space = of(spaces, room);
        argument(drops >= 1 && drops <= 12 && height >= 1 && height <= 60);
        state(space.lot == NONE && space.sides.size() < 4);
        Side made = new Side();
        made.drops = drops;
        made.height = height;
        space.sides.add(made);
        return space.sides.size() - 1;
    }

    /** Where the drop is cut, as roll and row, or null; rolls holds the last cut of each. */
    private int[] give(List<Integer> rolls, int left, Printed lot, int phase, int height) {
        int rows = rollers.get(lot.roller).repeat.length;
        for (int roll = 0; roll <= rolls.size(); roll++) {
            boolean fresh = roll == rolls.size();
            if (fresh && left == 0) {
                return null;
            }
            int row = fresh ? 0 : rolls.get(roll);
            while (row % rows != phase) {
                row++;
            }
            if (row + height <= lot.length) {
                if (fresh) {
                    rolls.add(0);
                }
                rolls.set(roll, row + height);
                return new int[] {roll, row};
            }
        }
        return null;
    }

    /** Cuts the drops that are wanting; null if it is not possible. */
    private List<List<int[]>> cutAll(Space space, Printed lot, int phase, List<Integer> rolls) {
        List<List<int[]>> all = new ArrayList<>();
        for (Side side : space.sides) {
            List<int[]> cuts = new ArrayList<>();
            for (int drop = 0; drop < side.drops; drop++) {
                int[] cut = give(rolls, lot.left - rolls.size(), lot, phase, side.height);
                if (cut == null) {
                    return null;
                }
                cuts.add(cut);
            }
            all.add(cuts);
        }
        return all;
    }

    int hang(int room, int lot) {
        Space space = of(spaces, room);
        Printed source = of(lots, lot);
        state(space.lot == NONE && !space.sides.isEmpty());
        int best = NONE;
        int fewest = Integer.MAX_VALUE;
        for (int phase = rollers.get(source.roller).repeat.length - 1; phase >= 0; phase--) {
            List<Integer> rolls = new ArrayList<>();
            if (cutAll(space, source, phase, rolls) != null && rolls.size() <= fewest) {
                best = phase;
                fewest = rolls.size();
            }
        }
        state(best != NONE);
        space.rolls = new ArrayList<>();
        List<List<int[]>> all = cutAll(space, source, best, space.rolls);
        for (int i = 0; i < space.sides.size(); i++) {
            space.sides.get(i).cuts = all.get(i);
        }
        space.lot = lot;
        space.phase = best;
        source.left -= fewest;
        return fewest;
    }

    int lengthen(int room, int wall, int drops) {
        Space space = of(spaces, room);
        Side side = of(space.sides, wall);
        argument(drops >= 1 && drops <= 12);
        state(space.lot != NONE && side.drops + drops <= 24);
        Printed source = lots.get(space.lot);
        side.drops += drops;
        List<Integer> rolls = new ArrayList<>(space.rolls);
        for (int drop = 0; drop < drops; drop++) {
            int[] cut = give(rolls, source.left + space.rolls.size() - rolls.size(), source, space.phase, side.height);
            if (cut == null) {
                strip(room);
                return NONE;
            }
            side.cuts.add(cut);
        }
        int more = rolls.size() - space.rolls.size();
        source.left -= more;
        space.rolls = rolls;
        return more;
    }

    int strip(int room) {
        Space space = of(spaces, room);
        state(space.lot != NONE);
        lost += space.rolls.size() * lots.get(space.lot).length;
        space.lot = NONE;
        return space.rolls.size();
    }

    int room(int room, int what) {
        Space space = of(spaces, room);
        argument(what >= 0 && what <= 5);
        int drops = 0;
        int hung = 0;
        for (Side side : space.sides) {
            drops += side.drops;
            hung += side.drops * side.height;
        }
        if (what < 2) {
            return what == 0 ? space.sides.size() : drops;
        }
        if (space.lot == NONE) {
            return NONE;
        }
        int opened = space.rolls.size();
        return new int[] {space.lot, space.phase, opened, opened * lots.get(space.lot).length - hung}[what - 2];
    }

    int cut(int room, int wall, int drop) {
        Space space = of(spaces, room);
        Side side = of(space.sides, wall);
        index(drop >= 0 && drop < side.drops);
        return space.lot == NONE ? NONE : 1000 * side.cuts.get(drop)[0] + side.cuts.get(drop)[1];
    }

    int seen(int room, int wall, int x, int y) {
        Space space = of(spaces, room);
        Side side = of(space.sides, wall);
        if (space.lot == NONE) {
            return NONE;
        }
        int[][] repeat = rollers.get(lots.get(space.lot).roller).repeat;
        index(x >= 0 && y >= 0 && y < side.height && x < side.drops * repeat[0].length);
        int[] cut = side.cuts.get(x / repeat[0].length);
        return repeat[(cut[1] + y) % repeat.length][x % repeat[0].length];
    }

    int lost() {
        return lost;
    }
}
