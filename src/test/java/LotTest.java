/** What the document says of rollers and lots, and promises 7 to 9: roller, lot, lotOf. */
public final class LotTest {
    private static final int LOWEST = Samples.LOWEST;
    private static final int HIGHEST = Samples.HIGHEST;

    private static final Checks checks = new Checks("LotTest");

    public static void main(String[] args) {
        eightRollers();
        roundsThatHoldTheRepeat();
        engravedAsItIsThen();
        tenLots();
        rollArguments();
        numbersOfTheNew();
        rollerExceptions();
        lotArguments();
        lotExceptions();
        lotNumbers();
        rollsLeft();
        roundsOfARoll();
        lotOfExceptions();
        checks.finish();
    }

    // ---- terms

    private static void eightRollers() {
        checks.sentence("Patterns", "Rollers are numbered from 0, at most 8:");
        RollerLeaf works = Samples.painted(1, 2, RollerLeaf.SHIFT);
        for (int number : Samples.range(0, 7)) {
            checks.equal("roller " + number, number, () -> works.roller(0, 2 * number + 2));
        }
        checks.equal("a lot of the roller 7", 0, () -> works.lot(7, 0, 1, 32));
        checks.equal("its rounds", 2, () -> works.lotOf(0, 4));
        checks.badState("a ninth roller", () -> withRollers(8), w -> w.roller(0, 2));
        checks.outside("a lot of the roller 8 of 8", () -> withRollers(8), w -> w.lot(8, 0, 1, 1));
        checks.outside("a lot of the roller 7 of 7", () -> withRollers(7), w -> w.lot(7, 0, 1, 1));
    }

    private static void roundsThatHoldTheRepeat() {
        checks.sentence("Patterns", "a roller has a round, 1 to 60 rows, that is a number of times the rows of the repeat"
            + " of its pattern, and has that pattern engraved, as it is then.");
        for (int repeatRows : new int[] {1, 2, 3, 4, 5, 6, 8, 10}) {
            boolean turned = repeatRows > 5;
            Checks.World world = () -> Samples.painted(1, turned ? repeatRows / 2 : repeatRows,
                turned ? RollerLeaf.TURN : RollerLeaf.SHIFT);
            for (int round : Samples.range(1, 60)) {
                String what = "a round of " + round + ", a repeat of " + repeatRows;
                if (round % repeatRows == 0) {
                    checks.equal(what, 0, () -> world.make().roller(0, round));
                } else {
                    checks.badState(what, world, works -> works.roller(0, round));
                }
            }
        }
        Checks.World plain = () -> {
            RollerLeaf works = new RollerLeaf();
            works.pattern(1, 2, RollerLeaf.BOTH);
            return works;
        };
        checks.badState("a round of 2, a repeat of 4, though of one colour", plain, works -> works.roller(0, 2));
        checks.equal("a round of 4, a repeat of 4, though of one colour", 0, () -> plain.make().roller(0, 4));
    }

    private static void engravedAsItIsThen() {
        RollerLeaf works = Samples.painted(1, 1, RollerLeaf.BOTH);
        for (int roller : Samples.range(0, 3)) {
            works.paint(0, 0, 0, roller + 4);
            works.roller(0, 2);
            works.lot(roller, 0, 1, 4);
            Samples.withWalls(works, roller, 1, 2).hang(roller, roller);
        }
        works.paint(0, 0, 0, 1);
        for (int roller : Samples.range(0, 3)) {
            checks.equal("roller " + roller + ", the first cell", roller + 4, () -> works.seen(roller, 0, 0, 0));
            checks.equal("roller " + roller + ", the last cell", roller + 4, () -> works.seen(roller, 0, 1, 1));
        }
    }

    private static void tenLots() {
        checks.sentence("Patterns", "Lots are numbered from 0, at most 10:");
        RollerLeaf works = withRollers(2);
        for (int number : Samples.range(0, 9)) {
            checks.equal("lot " + number, number, () -> works.lot(0, number, 1, 10 + number));
        }
        checks.equal("the length of the lot 9", 19, () -> works.lotOf(9, 3));
        checks.badState("an eleventh lot", () -> withLots(10), w -> w.lot(0, 1, 1, 10));
        checks.outside("the lot 10 of 10", () -> withLots(10), w -> w.lotOf(10, 3));
        checks.outside("the lot 9 of 9", () -> withLots(9), w -> w.lotOf(9, 3));
    }

    private static void rollArguments() {
        checks.sentence("Patterns", "of a roller, a dye, 0 to 9, a number of rolls, 1 to 20, and the length of each,"
            + " 1 to 200 rows.");
        RollerLeaf works = withRollers(3);
        checks.equal("all at their least", 0, () -> works.lot(0, 0, 1, 1));
        hasNumbers(works, 0, 0, 0, 1, 1, 1);
        checks.equal("all at their most", 1, () -> works.lot(2, 9, 20, 200));
        hasNumbers(works, 1, 2, 9, 20, 200, 34);
    }

    // ---- promise 7

    private static void numbersOfTheNew() {
        RollerLeaf works = Samples.painted(1, 2, RollerLeaf.SHIFT);
        checks.sentence("Promise 7: roller", "Returns its number.");
        checks.equal("the first roller", 0, () -> works.roller(0, 2));
        checks.equal("the second roller", 1, () -> works.roller(0, 4));
        checks.equal("the last roller", 7, () -> withRollers(7).roller(0, 2));
        checks.sentence("Promise 8: lot", "Returns its number.");
        checks.equal("the first lot", 0, () -> works.lot(1, 0, 1, 8));
        checks.equal("the second lot", 1, () -> works.lot(0, 0, 1, 8));
        checks.equal("the last lot", 9, () -> withLots(9).lot(0, 0, 1, 1));
        checks.equal("the first lot has the second roller", 2, () -> works.lotOf(0, 4));
        checks.equal("the second lot has the first roller", 4, () -> works.lotOf(1, 4));
    }

    private static void rollerExceptions() {
        Checks.World world = () -> withRollers(1);
        checks.sentence("Promise 7: roller", "`round`: 1 to 60");
        checks.equal("1", 0, () -> Samples.painted(5, 1, RollerLeaf.SHIFT).roller(0, 1));
        checks.equal("60", 0, () -> Samples.painted(5, 5, RollerLeaf.QUARTER).roller(0, 60));
        checks.sentence("Promise 7: roller", "Throws `IllegalArgumentException` if round is out of range");
        for (int round : new int[] {0, 61, 62, 120, -1, -2, LOWEST, HIGHEST}) {
            checks.badArgument("a round of " + round, world, works -> works.roller(0, round));
            checks.badArgument("a round of " + round + ", and there are 8", () -> withRollers(8),
                works -> works.roller(0, round));
        }
        checks.sentence("Promise 7: roller", "Throws `IndexOutOfBoundsException` as told");
        for (int pattern : new int[] {-1, 1, 6, LOWEST, HIGHEST}) {
            checks.outside("pattern " + pattern, world, works -> works.roller(pattern, 2));
        }
        checks.sentence("Promise 7: roller", "Throws `IllegalStateException` if the round does not hold the"
            + " repeat, or there are 8");
        checks.badState("a round of half a repeat", world, works -> works.roller(0, 1));
        checks.badState("a round of a repeat and a half", world, works -> works.roller(0, 3));
        checks.badState("a round of a row less than 30 repeats", world, works -> works.roller(0, 59));
        checks.equal("there are 7", 7, () -> withRollers(7).roller(0, 2));
        checks.badState("there are 8", () -> withRollers(8), works -> works.roller(0, 2));
        checks.badState("there are 8, and the round does not hold the repeat", () -> withRollers(8),
            works -> works.roller(0, 3));
    }

    // ---- promise 8

    private static void lotArguments() {
        Checks.World world = () -> withRollers(2);
        checks.sentence("Promise 8: lot", "`dye`: 0 to 9");
        for (int dye : Samples.range(0, 9)) {
            checks.equal("dye " + dye, 0, () -> world.make().lot(0, dye, 1, 1));
        }
        for (int dye : new int[] {-1, 10, LOWEST, HIGHEST}) {
            checks.badArgument("dye " + dye, world, works -> works.lot(0, dye, 1, 1));
        }
        checks.sentence("Promise 8: lot", "`rolls`: 1 to 20");
        checks.equal("1 roll", 0, () -> world.make().lot(0, 0, 1, 1));
        checks.equal("20 rolls", 0, () -> world.make().lot(0, 0, 20, 1));
        for (int rolls : new int[] {0, 21, -1, LOWEST, HIGHEST}) {
            checks.badArgument(rolls + " rolls", world, works -> works.lot(0, 0, rolls, 1));
        }
        checks.sentence("Promise 8: lot", "`length`: 1 to 200");
        checks.equal("a length of 1", 0, () -> world.make().lot(0, 0, 1, 1));
        checks.equal("a length of 200", 0, () -> world.make().lot(0, 0, 1, 200));
        for (int length : new int[] {0, 201, -1, LOWEST, HIGHEST}) {
            checks.badArgument("a length of " + length, world, works -> works.lot(0, 0, 1, length));
        }
    }

    private static void lotExceptions() {
        checks.sentence("Promise 8: lot", "Throws `IndexOutOfBoundsException` as told");
        for (int roller : new int[] {-1, 2, 7, 8, LOWEST, HIGHEST}) {
            checks.outside("roller " + roller, () -> withRollers(2), works -> works.lot(roller, 0, 1, 1));
            checks.outside("roller " + roller + ", wrong dye", () -> withRollers(2),
                works -> works.lot(roller, 10, 1, 1));
            checks.outside("roller " + roller + ", and there are 10", () -> withLots(10),
                works -> works.lot(roller, 0, 1, 1));
        }
        checks.sentence("Promise 8: lot", "Throws `IllegalArgumentException` if dye, rolls or length is out of range");
        int[][] wrong = {{-1, 1, 1}, {10, 1, 1}, {0, 0, 1}, {0, 21, 1}, {0, 1, 0}, {0, 1, 201}, {10, 21, 201}, {-1, 0, 0}};
        for (int[] w : wrong) {
            String what = w[0] + ", " + w[1] + ", " + w[2];
            checks.badArgument(what, () -> withLots(3), works -> works.lot(0, w[0], w[1], w[2]));
            checks.badArgument(what + ", and there are 10", () -> withLots(10),
                works -> works.lot(0, w[0], w[1], w[2]));
        }
        checks.sentence("Promise 8: lot", "Throws `IllegalStateException` if there are 10");
        checks.equal("there are 9", 9, () -> withLots(9).lot(1, 9, 20, 200));
        checks.badState("there are 10", () -> withLots(10), works -> works.lot(1, 9, 20, 200));
    }

    // ---- promise 9

    private static void lotNumbers() {
        checks.sentence("Promise 9: lotOf", "`what`: 0 its roller, 1 its dye, 2 how many rolls are left, 3 their length,"
            + " 4 how many rounds of the roller one has, rounded up");
        RollerLeaf works = withRollers(8);
        works.lot(7, 9, 20, 200);
        works.lot(0, 0, 1, 1);
        works.lot(3, 5, 4, 7);
        hasNumbers(works, 0, 7, 9, 20, 200, 13);
        hasNumbers(works, 1, 0, 0, 1, 1, 1);
        hasNumbers(works, 2, 3, 5, 4, 7, 1);
    }

    private static void rollsLeft() {
        RollerLeaf works = Samples.withLot(4, 3, 40);
        Samples.withWalls(works, 0, 2, 40);
        Samples.withWalls(works, 1, 1, 40);
        checks.equal("at first", 3, () -> works.lotOf(0, 2));
        works.hang(0, 0);
        checks.equal("after 2 are opened", 1, () -> works.lotOf(0, 2));
        works.hang(1, 0);
        hasNumbers(works, 0, 0, 0, 0, 40, 10);
        works.strip(0);
        checks.equal("rolls of a stripped room do not come back", 0, () -> works.lotOf(0, 2));
    }

    private static void roundsOfARoll() {
        int[][] lengthRoundRounds = {
            {1, 1, 1}, {200, 1, 200}, {1, 60, 1}, {59, 60, 1}, {60, 60, 1}, {61, 60, 2}, {120, 60, 2}, {121, 60, 3},
            {180, 60, 3}, {181, 60, 4}, {200, 60, 4}, {12, 12, 1}, {13, 12, 2}, {24, 12, 2}, {11, 12, 1},
        };
        for (int[] due : lengthRoundRounds) {
            RollerLeaf works = Samples.withRoller(1, due[1]);
            works.lot(0, 0, 1, due[0]);
            checks.equal(due[0] + " rows by a round of " + due[1], due[2], () -> works.lotOf(0, 4));
        }
    }

    private static void lotOfExceptions() {
        checks.sentence("Promise 9: lotOf", "Throws `IndexOutOfBoundsException` as told");
        for (int lot : new int[] {-1, 3, 9, 10, LOWEST, HIGHEST}) {
            checks.outside("lot " + lot, () -> withLots(3), works -> works.lotOf(lot, 0));
            checks.outside("lot " + lot + ", wrong what", () -> withLots(3), works -> works.lotOf(lot, 5));
        }
        checks.sentence("Promise 9: lotOf", "Throws `IllegalArgumentException` if what is out of range");
        for (int what : new int[] {-1, 5, LOWEST, HIGHEST}) {
            checks.badArgument("what " + what, () -> withLots(3), works -> works.lotOf(2, what));
        }
    }

    // ---- what the tests share

    /** Rollers of rounds 2, 4, .. of a pattern of 2 rows. */
    private static RollerLeaf withRollers(int count) {
        RollerLeaf works = Samples.painted(2, 2, RollerLeaf.SHIFT);
        for (int number = 0; number < count; number++) {
            works.roller(0, 2 * number + 2);
        }
        return works;
    }

    private static RollerLeaf withLots(int count) {
        RollerLeaf works = withRollers(2);
        for (int number = 0; number < count; number++) {
            works.lot(1, number, 1, 10);
        }
        return works;
    }

    private static void hasNumbers(RollerLeaf works, int lot, int... due) {
        checks.answers("lot " + lot + ", its number", works, (w, what) -> w.lotOf(lot, what), due);
    }
}
