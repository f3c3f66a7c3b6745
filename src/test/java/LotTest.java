/** Promises 7 to 9: roller, lot, lotOf. */
public final class LotTest {
    private static final int LOWEST = Integer.MIN_VALUE;
    private static final int HIGHEST = Integer.MAX_VALUE;

    private static final Checks checks = new Checks("LotTest");

    public static void main(String[] args) {
        roundsThatHoldTheRepeat();
        rollerExceptions();
        rollerLimit();
        lotNumbers();
        lotExceptions();
        lotLimit();
        lotOfExceptions();
        checks.finish();
    }

    private static void roundsThatHoldTheRepeat() {
        RollerLeaf works = new RollerLeaf();
        works.pattern(1, 5, RollerLeaf.TURN);
        checks.badState("a round of the motif alone", () -> works.roller(0, 5));
        checks.badState("a round of 15", () -> works.roller(0, 15));
        checks.badState("a round of 59", () -> works.roller(0, 59));
        checks.equal("a round of one repeat", 0, () -> works.roller(0, 10));
        checks.equal("the longest round", 1, () -> works.roller(0, 60));
        works.pattern(5, 1, RollerLeaf.SHIFT);
        checks.equal("the shortest round", 2, () -> works.roller(1, 1));
        works.pattern(1, 2, RollerLeaf.BOTH);
        checks.badState("one colour, but a repeat of 4", () -> works.roller(2, 2));
        checks.equal("a round of 4", 3, () -> works.roller(2, 4));
    }

    private static void rollerExceptions() {
        RollerLeaf works = new RollerLeaf();
        works.pattern(1, 2, RollerLeaf.SHIFT);
        for (int number : new int[] {-1, 1, LOWEST, HIGHEST}) {
            checks.outside("roller of pattern " + number, () -> works.roller(number, 2));
            checks.outside("roller of pattern " + number + ", wrong round", () -> works.roller(number, 61));
        }
        for (int round : new int[] {0, 61, 62, -2, LOWEST, HIGHEST}) {
            checks.badArgument("a round of " + round, () -> works.roller(0, round));
        }
        checks.equal("the first roller after wrong ones", 0, () -> works.roller(0, 2));
    }

    private static void rollerLimit() {
        RollerLeaf works = new RollerLeaf();
        works.pattern(1, 2, RollerLeaf.SHIFT);
        for (int number = 0; number < 8; number++) {
            checks.equal("roller " + number, number, () -> works.roller(0, 2));
        }
        checks.badState("a ninth roller", () -> works.roller(0, 2));
        checks.badArgument("a ninth roller, wrong round", () -> works.roller(0, 0));
        checks.outside("a ninth roller, no pattern", () -> works.roller(1, 0));
        checks.equal("a lot of the eighth", 0, () -> works.lot(7, 0, 1, 1));
        checks.outside("a lot of the ninth", () -> works.lot(8, 0, 1, 1));
    }

    private static void lotNumbers() {
        RollerLeaf works = withRollers();
        checks.equal("the first lot", 0, () -> works.lot(1, 9, 20, 200));
        hasNumbers(works, 0, 1, 9, 20, 200, 50);
        checks.equal("the second lot", 1, () -> works.lot(0, 0, 1, 1));
        hasNumbers(works, 1, 0, 0, 1, 1, 1);
        checks.equal("a roll of one round", 2, () -> works.lot(0, 5, 3, 12));
        hasNumbers(works, 2, 0, 5, 3, 12, 1);
        checks.equal("a roll of a row more", 3, () -> works.lot(0, 5, 3, 13));
        hasNumbers(works, 3, 0, 5, 3, 13, 2);
        checks.equal("a roll of two rounds", 4, () -> works.lot(0, 5, 3, 24));
        hasNumbers(works, 4, 0, 5, 3, 24, 2);
    }

    private static void lotExceptions() {
        RollerLeaf works = withRollers();
        for (int roller : new int[] {-1, 2, 8, LOWEST, HIGHEST}) {
            checks.outside("lot of roller " + roller, () -> works.lot(roller, 0, 1, 1));
            checks.outside("lot of roller " + roller + ", wrong dye", () -> works.lot(roller, 10, 1, 1));
        }
        int[][] wrong = {
            {-1, 1, 1}, {10, 1, 1}, {0, 0, 1}, {0, 21, 1}, {0, 1, 0}, {0, 1, 201},
            {LOWEST, 1, 1}, {0, HIGHEST, 1}, {0, 1, HIGHEST}, {0, 1, LOWEST},
        };
        for (int[] w : wrong) {
            checks.badArgument("lot(0, " + w[0] + ", " + w[1] + ", " + w[2] + ")", () -> works.lot(0, w[0], w[1], w[2]));
        }
        checks.outside("no lot was printed", () -> works.lotOf(0, 0));
    }

    private static void lotLimit() {
        RollerLeaf works = withRollers();
        for (int number = 0; number < 10; number++) {
            checks.equal("lot " + number, number, () -> works.lot(0, 1, 1, 10));
        }
        checks.badState("an eleventh lot", () -> works.lot(0, 1, 1, 10));
        checks.badArgument("an eleventh lot, wrong rolls", () -> works.lot(0, 1, 0, 10));
        checks.outside("an eleventh lot, no roller", () -> works.lot(2, 1, 0, 10));
        checks.equal("the tenth", 10, () -> works.lotOf(9, 3));
        checks.outside("the eleventh", () -> works.lotOf(10, 3));
    }

    private static void lotOfExceptions() {
        RollerLeaf works = withRollers();
        works.lot(0, 1, 1, 10);
        for (int lot : new int[] {-1, 1, LOWEST, HIGHEST}) {
            checks.outside("lotOf " + lot, () -> works.lotOf(lot, 0));
            checks.outside("lotOf " + lot + ", wrong what", () -> works.lotOf(lot, 5));
        }
        for (int what : new int[] {-1, 5, LOWEST, HIGHEST}) {
            checks.badArgument("lotOf(0, " + what + ")", () -> works.lotOf(0, what));
        }
    }

    private static RollerLeaf withRollers() {
        RollerLeaf works = new RollerLeaf();
        works.pattern(2, 4, RollerLeaf.SHIFT);
        works.roller(0, 12);
        works.roller(0, 4);
        return works;
    }

    private static void hasNumbers(RollerLeaf works, int lot, int... due) {
        for (int what = 0; what < due.length; what++) {
            int asked = what;
            checks.equal("lotOf(" + lot + ", " + what + ")", due[what], () -> works.lotOf(lot, asked));
        }
    }
}
