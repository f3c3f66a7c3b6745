/** Promises 10 to 17: wall, hang, lengthen, strip, room, cut, seen, lost. */
public final class RoomTest {
    private static final int LOWEST = Integer.MIN_VALUE;
    private static final int HIGHEST = Integer.MAX_VALUE;
    private static final int[] NO_ROOMS = {-1, 4, LOWEST, HIGHEST};

    private static final Checks checks = new Checks("RoomTest");

    public static void main(String[] args) {
        wallLimits();
        wallExceptions();
        hungInOrder();
        firstRollThatCan();
        exactFit();
        lowestPhaseOfSeveral();
        phaseThatOpensFewer();
        phaseThatTheLotHasRollsFor();
        hangExceptions();
        dropsThatNoRollGives();
        hungWhileOthersHang();
        lengthened();
        lengthenedByNewRolls();
        lengthenedInItsPhase();
        lengthenedTooFar();
        lengthenExceptions();
        hungAnewWithALongWall();
        stripped();
        roomNumbers();
        cutExceptions();
        seenOverDrops();
        seenInItsPhase();
        seenAsEngraved();
        seenExceptions();
        lostOfAllRooms();
        checks.finish();
    }

    private static void wallLimits() {
        RollerLeaf works = new RollerLeaf();
        checks.equal("the least wall", 0, () -> works.wall(0, 1, 1));
        checks.equal("the greatest wall", 1, () -> works.wall(0, 12, 60));
        checks.equal("a third wall", 2, () -> works.wall(0, 2, 2));
        checks.equal("a fourth wall", 3, () -> works.wall(0, 3, 3));
        checks.badState("a fifth wall", () -> works.wall(0, 1, 1));
        checks.badArgument("a fifth, wrong wall", () -> works.wall(0, 0, 1));
        checks.equal("the first of another room", 0, () -> works.wall(3, 1, 1));
        numbers(works, 0, 4, 18, -1, -1, -1, -1);
        numbers(works, 3, 1, 1, -1, -1, -1, -1);
        numbers(works, 1, 0, 0, -1, -1, -1, -1);
    }

    private static void wallExceptions() {
        RollerLeaf works = withLot(4, 5, 40);
        for (int room : NO_ROOMS) {
            checks.outside("wall of room " + room, () -> works.wall(room, 1, 1));
            checks.outside("wrong wall of room " + room, () -> works.wall(room, 0, 0));
        }
        int[][] wrong = {{0, 1}, {13, 1}, {1, 0}, {1, 61}, {LOWEST, 1}, {1, HIGHEST}, {HIGHEST, 1}, {1, -1}};
        for (int[] w : wrong) {
            checks.badArgument("wall(0, " + w[0] + ", " + w[1] + ")", () -> works.wall(0, w[0], w[1]));
        }
        numbers(works, 0, 0, 0, -1, -1, -1, -1);
        works.wall(0, 1, 1);
        works.hang(0, 0);
        checks.badState("a wall of a hung room", () -> works.wall(0, 1, 1));
        checks.badArgument("a wrong wall of a hung room", () -> works.wall(0, 1, 61));
        checks.equal("a hung room has its wall", 1, () -> works.room(0, 0));
        works.strip(0);
        checks.equal("a wall of a room that was stripped", 1, () -> works.wall(0, 1, 1));
    }

    private static void hungInOrder() {
        RollerLeaf works = withLot(4, 3, 50);
        works.wall(0, 4, 18);
        works.wall(0, 1, 10);
        checks.equal("hang", 2, () -> works.hang(0, 0));
        cuts(works, 0, 0, 0, 20, 1000, 1020);
        cuts(works, 0, 1, 40);
        numbers(works, 0, 2, 5, 0, 0, 2, 18);
        checks.equal("rolls left", 1, () -> works.lotOf(0, 2));
        checks.equal("nothing is lost", 0, works::lost);
    }

    private static void firstRollThatCan() {
        RollerLeaf works = withLot(10, 20, 100);
        works.wall(0, 3, 45);
        works.wall(0, 2, 60);
        works.wall(0, 3, 35);
        works.wall(0, 3, 10);
        checks.equal("hang", 5, () -> works.hang(0, 0));
        cuts(works, 0, 0, 0, 50, 1000);
        cuts(works, 0, 1, 2000, 3000);
        cuts(works, 0, 2, 1050, 2060, 3060);
        cuts(works, 0, 3, 1090, 4000, 4010);
        checks.badState("it is hung", () -> works.hang(0, 0));
    }

    private static void exactFit() {
        RollerLeaf works = withLot(5, 20, 25);
        works.wall(0, 4, 10);
        works.wall(0, 2, 5);
        checks.equal("hang to the end of the rolls", 2, () -> works.hang(0, 0));
        cuts(works, 0, 0, 0, 10, 1000, 1010);
        cuts(works, 0, 1, 20, 1020);
        checks.equal("no waste", 0, () -> works.room(0, 5));
        RollerLeaf shorter = withLot(5, 20, 24);
        shorter.wall(0, 4, 10);
        shorter.wall(0, 1, 5);
        checks.equal("hang with a row too few", 3, () -> shorter.hang(0, 0));
        cuts(shorter, 0, 1, 2000);
    }

    private static void lowestPhaseOfSeveral() {
        RollerLeaf works = withLot(10, 20, 60);
        works.wall(0, 1, 20);
        checks.equal("hang", 1, () -> works.hang(0, 0));
        checks.equal("the phase", 0, () -> works.room(0, 3));
        cuts(works, 0, 0, 0);
    }

    private static void phaseThatOpensFewer() {
        RollerLeaf works = withPhasedRoom(20);
        checks.equal("hang", 3, () -> works.hang(0, 0));
        cuts(works, 0, 0, 6);
        cuts(works, 0, 1, 46, 1006, 1066, 2006);
        cuts(works, 0, 2, 106, 136);
        cuts(works, 0, 3, 1126, 1146, 2066, 2086, 2106, 2126, 2146);
        numbers(works, 0, 4, 14, 0, 6, 3, 3 * 162 - 32 - 4 * 57 - 2 * 21 - 7 * 16);
        checks.equal("rolls left", 17, () -> works.lotOf(0, 2));
    }

    private static void phaseThatTheLotHasRollsFor() {
        RollerLeaf works = withPhasedRoom(3);
        checks.equal("hang, though phase 0 would open 4", 3, () -> works.hang(0, 0));
        checks.equal("the phase", 6, () -> works.room(0, 3));
        checks.equal("rolls left", 0, () -> works.lotOf(0, 2));
        RollerLeaf fewer = withPhasedRoom(2);
        checks.badState("hang with too few rolls by all phases", () -> fewer.hang(0, 0));
        numbers(fewer, 0, 4, 14, -1, -1, -1, -1);
        checks.equal("no roll is opened", 2, () -> fewer.lotOf(0, 2));
    }

    private static void hangExceptions() {
        RollerLeaf works = withLot(4, 1, 40);
        for (int room : NO_ROOMS) {
            checks.outside("hang room " + room, () -> works.hang(room, 0));
        }
        for (int lot : new int[] {-1, 1, 10, LOWEST, HIGHEST}) {
            checks.outside("hang, without a wall, from lot " + lot, () -> works.hang(0, lot));
        }
        checks.badState("hang without a wall", () -> works.hang(0, 0));
        works.wall(0, 3, 20);
        checks.badState("hang with too few rolls", () -> works.hang(0, 0));
        checks.equal("the lot is as it was", 1, () -> works.lotOf(0, 2));
        works.lot(0, 0, 2, 40);
        checks.equal("hang from another lot", 2, () -> works.hang(0, 1));
        checks.badState("hang a hung room", () -> works.hang(0, 1));
        checks.badState("hang a hung room from the other lot", () -> works.hang(0, 0));
        checks.outside("hang a hung room from no lot", () -> works.hang(0, 2));
        checks.equal("the room's lot", 1, () -> works.room(0, 2));
    }

    private static void dropsThatNoRollGives() {
        RollerLeaf works = withLot(4, 20, 40);
        works.wall(0, 1, 41);
        checks.badState("a drop longer than a roll", () -> works.hang(0, 0));
        works.wall(1, 2, 40);
        checks.equal("drops as long as a roll", 2, () -> works.hang(1, 0));
        cuts(works, 1, 0, 0, 1000);
        works.wall(2, 1, 10);
        works.wall(2, 1, 41);
        checks.badState("a later drop longer than a roll", () -> works.hang(2, 0));
        checks.equal("rolls left", 18, () -> works.lotOf(0, 2));
    }

    private static void hungWhileOthersHang() {
        RollerLeaf works = withLot(4, 5, 40);
        works.wall(0, 3, 40);
        works.wall(1, 3, 40);
        works.wall(2, 2, 40);
        checks.equal("hang the first", 3, () -> works.hang(0, 0));
        checks.badState("hang the second from 2 rolls", () -> works.hang(1, 0));
        checks.equal("hang the third from 2 rolls", 2, () -> works.hang(2, 0));
        cuts(works, 2, 0, 0, 1000);
        works.strip(0);
        checks.badState("what was opened is gone from the lot", () -> works.hang(0, 0));
    }

    private static void lengthened() {
        RollerLeaf works = withLot(4, 3, 50);
        works.wall(0, 2, 18);
        works.wall(0, 1, 10);
        checks.equal("hang", 1, () -> works.hang(0, 0));
        checks.equal("lengthen from opened rolls and a new one", 1, () -> works.lengthen(0, 0, 2));
        cuts(works, 0, 0, 0, 20, 1000, 1020);
        cuts(works, 0, 1, 40);
        checks.equal("lengthen from opened rolls alone", 0, () -> works.lengthen(0, 1, 1));
        cuts(works, 0, 1, 40, 1040);
        numbers(works, 0, 2, 6, 0, 0, 2, 100 - 4 * 18 - 2 * 10);
        checks.equal("rolls left", 1, () -> works.lotOf(0, 2));
        checks.equal("nothing is lost", 0, works::lost);
    }

    private static void lengthenedByNewRolls() {
        RollerLeaf works = withLot(4, 20, 20);
        works.wall(0, 12, 20);
        works.hang(0, 0);
        checks.equal("lengthen by 8", 8, () -> works.lengthen(0, 0, 8));
        checks.equal("the last roll", 19000, () -> works.cut(0, 0, 19));
        checks.equal("no roll is left", 0, () -> works.lotOf(0, 2));
        checks.equal("lengthen beyond the lot", -1, () -> works.lengthen(0, 0, 1));
        checks.equal("what is lost", 400, works::lost);
        checks.equal("its drops", 21, () -> works.room(0, 1));
    }

    private static void lengthenedInItsPhase() {
        RollerLeaf works = withPhasedRoom(4);
        works.hang(0, 0);
        checks.equal("lengthen", 1, () -> works.lengthen(0, 0, 2));
        cuts(works, 0, 0, 6, 3006, 3046);
        checks.equal("the phase is kept", 6, () -> works.room(0, 3));
    }

    private static void lengthenedTooFar() {
        RollerLeaf works = withLot(4, 3, 50);
        works.wall(0, 4, 18);
        works.wall(0, 1, 10);
        works.hang(0, 0);
        checks.equal("lengthen beyond the lot", -1, () -> works.lengthen(0, 0, 3));
        numbers(works, 0, 2, 8, -1, -1, -1, -1);
        checks.equal("none is opened for it", 1, () -> works.lotOf(0, 2));
        checks.equal("its opened rolls are lost", 100, works::lost);
        checks.equal("a drop of the bare room", -1, () -> works.cut(0, 0, 6));
        checks.badState("strip the bare room", () -> works.strip(0));
        checks.badState("lengthen the bare room", () -> works.lengthen(0, 0, 1));
        checks.equal("a wall of the bare room", 2, () -> works.wall(0, 1, 1));
    }

    private static void lengthenExceptions() {
        RollerLeaf works = withLot(4, 20, 200);
        works.wall(0, 12, 4);
        checks.badState("a bare room", () -> works.lengthen(0, 0, 1));
        checks.outside("a bare room, no wall", () -> works.lengthen(0, 1, 1));
        works.hang(0, 0);
        for (int room : NO_ROOMS) {
            checks.outside("lengthen in room " + room, () -> works.lengthen(room, 0, 0));
        }
        for (int wall : new int[] {-1, 1, 4, LOWEST, HIGHEST}) {
            checks.outside("lengthen wall " + wall, () -> works.lengthen(0, wall, 13));
        }
        for (int drops : new int[] {0, 13, -1, LOWEST, HIGHEST}) {
            checks.badArgument("lengthen by " + drops, () -> works.lengthen(0, 0, drops));
        }
        works.lengthen(0, 0, 1);
        checks.badState("lengthen to 25 drops", () -> works.lengthen(0, 0, 12));
        numbers(works, 0, 1, 13, 0, 0, 1, 200 - 52);
        checks.equal("lengthen to 24 drops", 0, () -> works.lengthen(0, 0, 11));
        checks.badState("lengthen 24 drops", () -> works.lengthen(0, 0, 1));
        checks.badArgument("lengthen 24 drops by none", () -> works.lengthen(0, 0, 0));
        checks.equal("the last drop", 92, () -> works.cut(0, 0, 23));
        works.strip(0);
        checks.badState("lengthen a stripped room", () -> works.lengthen(0, 0, 1));
        checks.badArgument("lengthen a stripped room by 13", () -> works.lengthen(0, 0, 13));
    }

    private static void hungAnewWithALongWall() {
        RollerLeaf works = withLot(10, 2, 100);
        works.wall(0, 12, 10);
        works.wall(0, 1, 10);
        checks.equal("hang", 2, () -> works.hang(0, 0));
        checks.equal("lengthen too far", -1, () -> works.lengthen(0, 0, 12));
        works.lot(0, 0, 3, 200);
        checks.equal("hang anew from another lot", 2, () -> works.hang(0, 1));
        checks.equal("the 20th drop", 190, () -> works.cut(0, 0, 19));
        checks.equal("the 24th drop", 1030, () -> works.cut(0, 0, 23));
        cuts(works, 0, 1, 1040);
        numbers(works, 0, 2, 25, 1, 0, 2, 150);
    }

    private static void stripped() {
        RollerLeaf works = withLot(4, 5, 40);
        for (int room : NO_ROOMS) {
            checks.outside("strip room " + room, () -> works.strip(room));
        }
        checks.badState("strip a room that never hung", () -> works.strip(0));
        works.wall(0, 3, 40);
        checks.badState("strip a bare room", () -> works.strip(0));
        works.hang(0, 0);
        checks.equal("strip", 3, () -> works.strip(0));
        checks.badState("strip again", () -> works.strip(0));
        checks.equal("what is lost", 120, works::lost);
        checks.equal("rolls left", 2, () -> works.lotOf(0, 2));
        numbers(works, 0, 1, 3, -1, -1, -1, -1);
    }

    private static void roomNumbers() {
        RollerLeaf works = withLot(4, 5, 40);
        works.lot(0, 3, 6, 60);
        works.wall(2, 3, 30);
        works.wall(2, 2, 20);
        works.hang(2, 1);
        numbers(works, 2, 2, 5, 1, 0, 3, 180 - 130);
        for (int room : NO_ROOMS) {
            checks.outside("room(" + room + ", 0)", () -> works.room(room, 0));
            checks.outside("room(" + room + ", 6)", () -> works.room(room, 6));
        }
        for (int what : new int[] {-1, 6, LOWEST, HIGHEST}) {
            checks.badArgument("room(2, " + what + ")", () -> works.room(2, what));
            checks.badArgument("room(0, " + what + "), which is bare", () -> works.room(0, what));
        }
    }

    private static void cutExceptions() {
        RollerLeaf works = withLot(4, 5, 40);
        works.wall(0, 2, 10);
        cutBounds("bare", works);
        checks.equal("cut of a bare room", -1, () -> works.cut(0, 0, 1));
        works.hang(0, 0);
        cutBounds("hung", works);
        checks.equal("cut of a hung room", 12, () -> works.cut(0, 0, 1));
        works.lengthen(0, 0, 1);
        checks.equal("cut of a lengthened wall", 24, () -> works.cut(0, 0, 2));
        works.strip(0);
        checks.equal("cut of a stripped room", -1, () -> works.cut(0, 0, 2));
        checks.outside("cut of a stripped room, no drop", () -> works.cut(0, 0, 3));
    }

    private static void cutBounds(String how, RollerLeaf works) {
        for (int room : NO_ROOMS) {
            checks.outside(how + ": cut in room " + room, () -> works.cut(room, 0, 0));
        }
        for (int wall : new int[] {-1, 1, 4, LOWEST, HIGHEST}) {
            checks.outside(how + ": cut in wall " + wall, () -> works.cut(0, wall, 0));
        }
        for (int drop : new int[] {-1, 2, 24, LOWEST, HIGHEST}) {
            checks.outside(how + ": cut of drop " + drop, () -> works.cut(0, 0, drop));
        }
    }

    private static void seenOverDrops() {
        RollerLeaf works = new RollerLeaf();
        works.pattern(2, 2, RollerLeaf.TURN);
        works.paint(0, 0, 0, 1);
        works.paint(0, 1, 0, 2);
        works.paint(0, 0, 1, 3);
        works.paint(0, 1, 1, 4);
        works.roller(0, 4);
        works.lot(0, 0, 2, 20);
        works.wall(0, 3, 6);
        works.hang(0, 0);
        String[] rows = {"121212", "343434", "434343", "212121", "121212", "343434"};
        for (int y = 0; y < rows.length; y++) {
            for (int x = 0; x < rows[y].length(); x++) {
                int column = x;
                int row = y;
                checks.equal("seen at " + x + ", " + y, rows[y].charAt(x) - '0', () -> works.seen(0, 0, column, row));
            }
        }
        checks.outside("seen right of the wall", () -> works.seen(0, 0, 6, 0));
        works.lengthen(0, 0, 1);
        checks.equal("seen of the new drop", 2, () -> works.seen(0, 0, 7, 0));
        checks.outside("seen right of the longer wall", () -> works.seen(0, 0, 8, 0));
    }

    private static void seenInItsPhase() {
        RollerLeaf works = withPhasedRoom(5);
        works.hang(0, 0);
        // The rows of the repeat are 1, 2, 3, 4, 5, 5, 4, 3, 2, 1.
        int[] due = {4, 3, 2, 1, 1, 2, 3, 4, 5, 5, 4, 3};
        for (int y = 0; y < due.length; y++) {
            int row = y;
            checks.equal("seen of the second wall, row " + y, due[y], () -> works.seen(0, 1, 7, row));
        }
        checks.equal("seen, its last row", due[6], () -> works.seen(0, 1, 0, 56));
        checks.outside("seen, a row more", () -> works.seen(0, 1, 0, 57));
    }

    private static void seenAsEngraved() {
        RollerLeaf works = withLot(2, 20, 40);
        works.wall(0, 1, 2);
        works.hang(0, 0);
        works.paint(0, 0, 0, 5);
        checks.equal("seen, painted after engraving", 0, () -> works.seen(0, 0, 0, 0));
        works.roller(0, 2);
        works.lot(1, 0, 1, 40);
        works.wall(1, 1, 2);
        works.hang(1, 1);
        works.paint(0, 0, 0, 6);
        checks.equal("seen, painted before engraving", 5, () -> works.seen(1, 0, 0, 0));
        checks.equal("seen of the first room", 0, () -> works.seen(0, 0, 0, 0));
        works.strip(0);
        works.hang(0, 0);
        checks.equal("seen when hung anew from the lot", 0, () -> works.seen(0, 0, 0, 0));
    }

    private static void seenExceptions() {
        RollerLeaf works = withLot(4, 5, 40);
        works.wall(0, 2, 10);
        seenBounds("bare", works);
        checks.equal("seen of a bare room", -1, () -> works.seen(0, 0, 0, 0));
        checks.equal("seen of a bare room, any cell", -1, () -> works.seen(0, 0, HIGHEST, LOWEST));
        works.hang(0, 0);
        seenBounds("hung", works);
        int[][] wrong = {{-1, 0}, {0, -1}, {4, 0}, {0, 10}, {LOWEST, 0}, {0, HIGHEST}, {HIGHEST, 0}, {0, LOWEST}};
        for (int[] w : wrong) {
            checks.outside("seen(0, 0, " + w[0] + ", " + w[1] + ")", () -> works.seen(0, 0, w[0], w[1]));
        }
        checks.equal("seen, the last cell", 0, () -> works.seen(0, 0, 3, 9));
    }

    private static void seenBounds(String how, RollerLeaf works) {
        for (int room : NO_ROOMS) {
            checks.outside(how + ": seen in room " + room, () -> works.seen(room, 0, 0, 0));
        }
        for (int wall : new int[] {-1, 1, 4, LOWEST, HIGHEST}) {
            checks.outside(how + ": seen in wall " + wall, () -> works.seen(0, wall, 0, 0));
        }
    }

    private static void lostOfAllRooms() {
        RollerLeaf works = withLot(4, 5, 40);
        works.lot(0, 1, 3, 17);
        works.wall(0, 2, 40);
        works.wall(1, 3, 17);
        works.hang(0, 0);
        works.hang(1, 1);
        checks.equal("nothing is lost", 0, works::lost);
        works.strip(0);
        checks.equal("of the first room", 80, works::lost);
        checks.equal("lengthen the second too far", -1, () -> works.lengthen(1, 0, 1));
        checks.equal("of both rooms", 80 + 51, works::lost);
        works.hang(0, 0);
        works.strip(0);
        checks.equal("of the first room again", 80 + 51 + 80, works::lost);
    }

    /** A lot 0 of a plain pattern of 2 columns and some rows, 1 to 5, or 10 by TURN. */
    private static RollerLeaf withLot(int repeatRows, int rolls, int length) {
        RollerLeaf works = new RollerLeaf();
        boolean turned = repeatRows > 5;
        works.pattern(2, turned ? repeatRows / 2 : repeatRows, turned ? RollerLeaf.TURN : RollerLeaf.SHIFT);
        works.roller(0, repeatRows);
        works.lot(0, 0, rolls, length);
        return works;
    }

    /** A room 0 that opens 4 rolls by the phase 0, and 3 by 6; row y of the motif has the colour y + 1. */
    private static RollerLeaf withPhasedRoom(int rolls) {
        RollerLeaf works = new RollerLeaf();
        works.pattern(2, 5, RollerLeaf.TURN);
        for (int y = 0; y < 5; y++) {
            works.paint(0, 0, y, y + 1);
            works.paint(0, 1, y, y + 1);
        }
        works.roller(0, 10);
        works.lot(0, 0, rolls, 162);
        works.wall(0, 1, 32);
        works.wall(0, 4, 57);
        works.wall(0, 2, 21);
        works.wall(0, 7, 16);
        return works;
    }

    private static void cuts(RollerLeaf works, int room, int wall, int... due) {
        for (int drop = 0; drop < due.length; drop++) {
            int asked = drop;
            checks.equal("cut(" + room + ", " + wall + ", " + drop + ")", due[drop], () -> works.cut(room, wall, asked));
        }
        checks.outside("cut(" + room + ", " + wall + ", " + due.length + ")", () -> works.cut(room, wall, due.length));
    }

    private static void numbers(RollerLeaf works, int room, int... due) {
        for (int what = 0; what < due.length; what++) {
            int asked = what;
            checks.equal("room(" + room + ", " + what + ")", due[what], () -> works.room(room, asked));
        }
    }
}
