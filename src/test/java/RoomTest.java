/** What the document says of hung rooms, and promises 12 to 17: lengthen, strip, room, cut, seen, lost. */
public final class RoomTest {
    private static final int LOWEST = Samples.LOWEST;
    private static final int HIGHEST = Samples.HIGHEST;
    private static final int[] NO_WALLS = {-1, 1, 3, 4, LOWEST, HIGHEST};

    private static final Checks checks = new Checks("RoomTest");

    public static void main(String[] args) {
        lengthenedLikewise();
        lengthenedInItsPhase();
        lengthenedTooFar();
        wasteAndLost();
        lengthenArguments();
        lengthenAnswers();
        lengthenNoSuch();
        lengthenExceptions();
        stripped();
        stripExceptions();
        roomNumbers();
        roomExceptions();
        dropsFrom0();
        cutAnswers();
        cutExceptions();
        cellsFrom0();
        seenAsEngraved();
        seenOfWholeEngravings();
        seenInItsPhase();
        seenOfABareRoom();
        seenExceptions();
        lostInAll();
        checks.finish();
    }

    // ---- terms

    private static void lengthenedLikewise() {
        checks.sentence("Rooms", "A wall that is hung can be lengthened by drops, which are cut likewise, behind all"
            + " others, from the room's opened rolls and new ones of the lot.");
        RollerLeaf works = Samples.hung(Samples.withLot(4, 3, 50), 2, 18, 1, 10);
        checks.equal("from an opened roll and a new one", 1, () -> works.lengthen(0, 0, 2));
        cuts("the first wall", works, 0, 0, 20, 1000, 1020);
        cuts("the second wall, which is as before", works, 1, 40);
        checks.equal("from an opened roll alone", 0, () -> works.lengthen(0, 1, 1));
        cuts("the first wall, which is as before", works, 0, 0, 20, 1000, 1020);
        cuts("the second wall", works, 1, 40, 1040);
        checks.equal("rolls left", 1, () -> works.lotOf(0, 2));
        checks.equal("from a new roll alone", 1, () -> works.lengthen(0, 0, 1));
        cuts("the first wall", works, 0, 0, 20, 1000, 1020, 2000);
        RollerLeaf ends = Samples.hung(Samples.withLot(1, 20, 10), 3, 8, 1, 1);
        checks.equal("from the ends of the rolls", 0, () -> ends.lengthen(0, 1, 5));
        cuts("the second wall", ends, 1, 8, 9, 1008, 1009, 2008, 2009);
    }

    private static void lengthenedInItsPhase() {
        RollerLeaf works = Samples.withPhasedRoom(4);
        works.hang(0, 0);
        checks.equal("from a new roll", 1, () -> works.lengthen(0, 0, 2));
        cuts("by the phase 6 of 10", works, 0, 6, 3006, 3046);
        checks.equal("the phase is kept", 6, () -> works.room(0, 3));
        RollerLeaf fewerByAnother = Samples.hung(Samples.withLot(2, 20, 24), 1, 22, 4, 8, 4, 10, 1, 7);
        checks.equal("the phase when hung", 0, () -> fewerByAnother.room(0, 3));
        checks.equal("lengthen, though by the phase 1 no roll more were needed", 1,
            () -> fewerByAnother.lengthen(0, 3, 1));
        checks.equal("the phase when lengthened", 0, () -> fewerByAnother.room(0, 3));
        checks.equal("its rolls", 6, () -> fewerByAnother.room(0, 4));
    }

    private static void lengthenedTooFar() {
        checks.sentence("Rooms", "If that is not possible, none is opened for it, the room is bare, with that wall"
            + " lengthened, and its opened rolls are lost.");
        RollerLeaf works = Samples.hung(Samples.withLot(4, 3, 50), 4, 18, 1, 10);
        checks.equal("by one drop more than the last roll gives", -1, () -> works.lengthen(0, 0, 3));
        numbers(works, 0, 2, 8, -1, -1, -1, -1);
        cuts("the lengthened wall", works, 0, -1, -1, -1, -1, -1, -1, -1);
        cuts("the other wall", works, 1, -1);
        checks.equal("the roll that it would take is left", 1, () -> works.lotOf(0, 2));
        checks.equal("its 2 opened rolls are lost", 100, works::lost);
        RollerLeaf possible = Samples.hung(Samples.withLot(4, 3, 50), 4, 18, 1, 10);
        checks.equal("by as many as the last roll gives", 1, () -> possible.lengthen(0, 0, 2));
        checks.equal("no roll is left", 0, () -> possible.lotOf(0, 2));
        checks.equal("nothing is lost", 0, possible::lost);
        checks.equal("by a drop more, without a roll", -1, () -> possible.lengthen(0, 0, 1));
        checks.equal("then all 3 rolls are lost", 150, possible::lost);
        checks.equal("and the lot has none still", 0, () -> possible.lotOf(0, 2));
        Checks.World bare = () -> {
            RollerLeaf made = Samples.hung(Samples.withLot(4, 3, 50), 4, 18, 1, 10);
            made.lengthen(0, 0, 3);
            return made;
        };
        checks.badState("a bare room is not stripped", bare, w -> w.strip(0));
        checks.badState("a bare room is not lengthened", bare, w -> w.lengthen(0, 0, 1));
        checks.equal("a bare room is given a wall", 2, () -> bare.make().wall(0, 1, 1));
        checks.badState("7 drops are too many for the roll that is left", bare, w -> w.hang(0, 0));
        othersStayHung();
    }

    private static void othersStayHung() {
        RollerLeaf works = Samples.hung(Samples.withLot(4, 3, 50), 2, 50);
        Samples.withWalls(works, 1, 1, 50).hang(1, 0);
        checks.equal("lengthen the first room too far", -1, () -> works.lengthen(0, 0, 1));
        numbers(works, 1, 1, 1, 0, 0, 1, 0);
        checks.equal("its rolls alone are lost", 100, works::lost);
    }

    private static void wasteAndLost() {
        checks.sentence("Rooms", "The waste of a hung room is the length of its opened rolls, less the heights of its"
            + " drops, together; what was lost is counted by the rows of whole rolls, in all.");
        checks.equal("no waste", 0, () -> waste(Samples.hung(Samples.withLot(5, 20, 25), 4, 10, 2, 5)));
        checks.equal("a row", 1, () -> waste(Samples.hung(Samples.withLot(1, 20, 10), 1, 9)));
        checks.equal("a roll but for a row", 199, () -> waste(Samples.hung(Samples.withLot(4, 20, 200), 1, 1)));
        checks.equal("between drops", 50 - 2 * 18, () -> waste(Samples.hung(Samples.withLot(4, 3, 50), 2, 18)));
        checks.equal("of 20 rolls", 20 * 19,
            () -> waste(Samples.hung(Samples.withLot(4, 20, 40), 5, 21, 5, 21, 5, 21, 5, 21)));
        checks.equal("of several walls, before the phase, too", 3 * 162 - 32 - 4 * 57 - 2 * 21 - 7 * 16,
            () -> waste(Samples.hung(Samples.withPhasedRoom(20))));
        RollerLeaf works = Samples.hung(Samples.withLot(4, 3, 50), 2, 18, 1, 10);
        checks.equal("when hung", 50 - 46, () -> waste(works));
        works.lengthen(0, 0, 1);
        checks.equal("with a drop and a roll more", 100 - 64, () -> waste(works));
        works.lengthen(0, 1, 1);
        checks.equal("with a drop more", 100 - 74, () -> waste(works));
        checks.equal("nothing is lost", 0, works::lost);
        works.strip(0);
        checks.equal("whole rolls are lost", 100, works::lost);
    }

    // ---- promise 12

    private static void lengthenArguments() {
        checks.sentence("Promise 12: lengthen", "`drops`: 1 to 12 more");
        for (int drops : Samples.range(1, 12)) {
            RollerLeaf works = withWall(12);
            checks.equal("by " + drops, 0, () -> works.lengthen(0, 0, drops));
            checks.equal("drops, by " + drops, 12 + drops, () -> works.room(0, 1));
        }
        checks.sentence("Promise 12: lengthen", "Throws `IllegalArgumentException` if drops is out of range");
        for (int drops : new int[] {0, 13, 24, -1, LOWEST, HIGHEST}) {
            checks.badArgument("by " + drops, () -> withWall(1), works -> works.lengthen(0, 0, drops));
            checks.badArgument("by " + drops + ", bare", RoomTest::withBareRoom, works -> works.lengthen(0, 0, drops));
            checks.badArgument("by " + drops + ", of 24", () -> withLongWall(24), works -> works.lengthen(0, 0, drops));
        }
    }

    private static void lengthenAnswers() {
        checks.sentence("Promise 12: lengthen", "Returns how many rolls more are opened; NONE if the room is bare then.");
        checks.equal("none", 0, () -> withWall(1).lengthen(0, 0, 1));
        checks.equal("one", 1, () -> Samples.hung(Samples.withLot(4, 2, 40), 1, 40).lengthen(0, 0, 1));
        RollerLeaf works = Samples.hung(Samples.withLot(4, 20, 40), 8, 40);
        checks.equal("twelve, all that are left", 12, () -> works.lengthen(0, 0, 12));
        checks.equal("all its rolls", 20, () -> works.room(0, 4));
        checks.equal("the last of them", 19000, () -> works.cut(0, 0, 19));
        checks.equal("a drop more", -1, () -> works.lengthen(0, 0, 1));
        checks.equal("all that are lost", 800, works::lost);
        checks.equal("its drops", 21, () -> works.room(0, 1));
        RollerLeaf fewer = Samples.hung(Samples.withLot(4, 20, 40), 9, 40);
        checks.equal("twelve, one more than are left", -1, () -> fewer.lengthen(0, 0, 12));
        checks.equal("none is opened for it", 11, () -> fewer.lotOf(0, 2));
        checks.equal("what is lost", 360, fewer::lost);
    }

    private static void lengthenNoSuch() {
        checks.sentence("Promise 12: lengthen", "Throws `IndexOutOfBoundsException` as told, of both");
        for (int room : Samples.NO_ROOMS) {
            checks.outside("room " + room, () -> withWall(1), works -> works.lengthen(room, 0, 1));
            checks.outside("room " + room + ", wrong drops", () -> withWall(1), works -> works.lengthen(room, 0, 0));
        }
        for (int wall : NO_WALLS) {
            checks.outside("wall " + wall, () -> withWall(1), works -> works.lengthen(0, wall, 1));
            checks.outside("wall " + wall + ", wrong drops", () -> withWall(1), works -> works.lengthen(0, wall, 13));
            checks.outside("wall " + wall + ", bare", RoomTest::withBareRoom, works -> works.lengthen(0, wall, 1));
        }
        checks.outside("wall 0 of a room without one", () -> withWall(1), works -> works.lengthen(1, 0, 1));
    }

    private static void lengthenExceptions() {
        checks.sentence("Promise 12: lengthen", "Throws `IllegalStateException` if it is bare, or the wall would have more"
            + " than 24 drops");
        checks.badState("bare", RoomTest::withBareRoom, works -> works.lengthen(0, 0, 1));
        checks.badState("stripped", RoomTest::withStrippedRoom, works -> works.lengthen(0, 0, 1));
        int[][] dropsMore = {{12, 12, 24}, {13, 11, 24}, {13, 12, 25}, {23, 1, 24}, {23, 2, 25}, {24, 1, 25}, {24, 12, 36}};
        for (int[] due : dropsMore) {
            String what = due[0] + " drops and " + due[1] + " more";
            if (due[2] <= 24) {
                RollerLeaf works = withLongWall(due[0]);
                checks.equal(what, 0, () -> works.lengthen(0, 0, due[1]));
                checks.equal(what + ", the last", due[2] - 1, () -> works.cut(0, 0, due[2] - 1));
            } else {
                checks.badState(what, () -> withLongWall(due[0]), works -> works.lengthen(0, 0, due[1]));
            }
        }
        // No roll is left for it either; yet the room is not bare then.
        Checks.World usedUp = () -> {
            RollerLeaf works = Samples.hung(Samples.withLot(1, 1, 24), 12, 1);
            works.lengthen(0, 0, 12);
            return works;
        };
        checks.badState("24 drops and 1 more, without a roll", usedUp, works -> works.lengthen(0, 0, 1));
        RollerLeaf works = withLongWall(24);
        works.wall(1, 1, 1);
        works.hang(1, 0);
        checks.equal("another room's wall", 0, () -> works.lengthen(1, 0, 12));
    }

    // ---- promise 13

    private static void stripped() {
        checks.sentence("Promise 13: strip", "Strips a room; its opened rolls are lost.");
        RollerLeaf works = Samples.hung(Samples.withLot(4, 5, 40), 2, 40, 1, 10);
        works.strip(0);
        numbers(works, 0, 2, 3, -1, -1, -1, -1);
        cuts("the first wall", works, 0, -1, -1);
        checks.equal("whole rolls are lost", 120, works::lost);
        checks.equal("they do not come back", 2, () -> works.lotOf(0, 2));
        checks.sentence("Promise 13: strip", "Returns how many rolls were opened for it.");
        checks.equal("the fewest", 1, () -> withWall(1).strip(0));
        checks.equal("the most", 20, () -> Samples.hung(Samples.withLot(4, 20, 40), 8, 40, 12, 40).strip(0));
        RollerLeaf lengthened = Samples.hung(Samples.withLot(4, 5, 40), 2, 40, 1, 10);
        lengthened.lengthen(0, 0, 2);
        checks.equal("those to lengthen it, too", 5, () -> lengthened.strip(0));
        checks.equal("all are lost", 200, lengthened::lost);
        Samples.withWalls(works, 1, 1, 40).hang(1, 0);
        checks.equal("another room's are not", 1, () -> works.strip(1));
    }

    private static void stripExceptions() {
        checks.sentence("Promise 13: strip", "Throws `IndexOutOfBoundsException` as told");
        for (int room : Samples.NO_ROOMS) {
            checks.outside("room " + room, () -> withWall(1), works -> works.strip(room));
        }
        checks.sentence("Promise 13: strip", "Throws `IllegalStateException` if it is bare");
        checks.badState("never hung", RoomTest::withBareRoom, works -> works.strip(0));
        checks.badState("without a wall", () -> withWall(1), works -> works.strip(3));
        checks.badState("stripped", RoomTest::withStrippedRoom, works -> works.strip(0));
    }

    // ---- promise 14

    private static void roomNumbers() {
        checks.sentence("Promise 14: room", "`what`: 0 how many walls, 1 how many drops, of all walls, 2 its lot, 3 its"
            + " phase, 4 its opened rolls, 5 its waste; NONE for 2 to 5, if it is bare");
        RollerLeaf works = Samples.withLot(4, 5, 40);
        for (int lot : Samples.range(1, 9)) {
            works.lot(0, 3, 6, 60);
        }
        numbers(works, 2, 0, 0, -1, -1, -1, -1);
        Samples.withWalls(works, 2, 3, 30, 2, 20);
        numbers(works, 2, 2, 5, -1, -1, -1, -1);
        works.hang(2, 9);
        numbers(works, 2, 2, 5, 9, 0, 3, 180 - 130);
        numbers(works, 1, 0, 0, -1, -1, -1, -1);
        works.strip(2);
        numbers(works, 2, 2, 5, -1, -1, -1, -1);
        works.hang(2, 0);
        numbers(works, 2, 2, 5, 0, 0, 4, 160 - 130);
        checks.equal("lengthen too far", -1, () -> works.lengthen(2, 1, 12));
        numbers(works, 2, 2, 17, -1, -1, -1, -1);
        numbers(Samples.hung(Samples.withPhasedRoom(20)), 0, 4, 14, 0, 6, 3, 72);
        RollerLeaf most = Samples.hung(Samples.withLot(1, 1, 200), 12, 1, 12, 1, 12, 1, 12, 1);
        for (int wall : Samples.range(0, 3)) {
            most.lengthen(0, wall, 12);
        }
        numbers(most, 0, 4, 96, 0, 0, 1, 200 - 96);
    }

    private static void roomExceptions() {
        checks.sentence("Promise 14: room", "Throws `IndexOutOfBoundsException` as told");
        for (int room : Samples.NO_ROOMS) {
            for (int what : Samples.range(-1, 6)) {
                checks.outside("room(" + room + ", " + what + ")", () -> withWall(1), works -> works.room(room, what));
            }
        }
        checks.sentence("Promise 14: room", "Throws `IllegalArgumentException` if what is out of range");
        for (int what : new int[] {-1, 6, LOWEST, HIGHEST}) {
            checks.badArgument("what " + what + ", hung", () -> withWall(1), works -> works.room(0, what));
            checks.badArgument("what " + what + ", bare", () -> withWall(1), works -> works.room(3, what));
        }
    }

    // ---- promise 15

    private static void dropsFrom0() {
        checks.sentence("Promise 15: cut", "`drop`: from 0");
        RollerLeaf works = withWall(12);
        for (int drop : Samples.range(0, 11)) {
            checks.equal("drop " + drop, drop, () -> works.cut(0, 0, drop));
        }
        checks.outside("drop 12 of 12", () -> withWall(12), w -> w.cut(0, 0, 12));
        works.lengthen(0, 0, 12);
        for (int drop : Samples.range(0, 23)) {
            checks.equal("drop " + drop + " of 24", drop, () -> works.cut(0, 0, drop));
        }
        checks.outside("drop 24 of 24", () -> withLongWall(24), w -> w.cut(0, 0, 24));
    }

    private static void cutAnswers() {
        checks.sentence("Promise 15: cut", "Returns 1000 times the roll, numbered as they were opened for the room, from 0,"
            + " and the row at which it begins, together; NONE if the room is bare.");
        RollerLeaf works = Samples.hung(Samples.withLot(4, 20, 200), 1, 60, 2, 60, 1, 30, 1, 5);
        checks.equal("the first roll, its row 0", 0, () -> works.cut(0, 0, 0));
        checks.equal("the first roll, a later row", 120, () -> works.cut(0, 1, 1));
        checks.equal("the second roll, its row 0", 1000, () -> works.cut(0, 2, 0));
        checks.equal("the first roll, where the second drop was too long", 180, () -> works.cut(0, 3, 0));
        checks.equal("the last row", 199,
            () -> Samples.hung(Samples.withLot(1, 1, 200), 3, 60, 1, 19, 1, 1).cut(0, 2, 0));
        checks.equal("the last roll", 19000,
            () -> Samples.hung(Samples.withLot(4, 20, 40), 12, 40, 8, 40).cut(0, 1, 7));
        Samples.withWalls(works, 1, 1, 60).hang(1, 0);
        checks.equal("another room's first roll", 0, () -> works.cut(1, 0, 0));
        works.strip(0);
        checks.equal("bare, the first drop", -1, () -> works.cut(0, 0, 0));
        checks.equal("bare, the last drop", -1, () -> works.cut(0, 3, 0));
        checks.equal("bare, never hung", -1, () -> withBareRoom().cut(0, 0, 1));
    }

    private static void cutExceptions() {
        checks.sentence("Promise 15: cut", "Throws `IndexOutOfBoundsException` as told, of all");
        Checks.World hung = () -> withWall(2);
        for (Checks.World world : new Checks.World[] {hung, RoomTest::withBareRoom, RoomTest::withStrippedRoom}) {
            String how = world.make().room(0, 2) == -1 ? "bare: " : "hung: ";
            for (int room : Samples.NO_ROOMS) {
                checks.outside(how + "room " + room, world, works -> works.cut(room, 0, 0));
            }
            for (int wall : NO_WALLS) {
                checks.outside(how + "wall " + wall, world, works -> works.cut(0, wall, 0));
            }
            for (int drop : new int[] {-1, 2, 12, 23, 24, LOWEST, HIGHEST}) {
                checks.outside(how + "drop " + drop, world, works -> works.cut(0, 0, drop));
            }
            checks.outside(how + "a wall of another room", world, works -> works.cut(1, 0, 0));
        }
    }

    // ---- promise 16

    private static void cellsFrom0() {
        RollerLeaf works = Samples.painted(2, 2, RollerLeaf.TURN);
        works.roller(0, 4);
        works.lot(0, 0, 2, 20);
        Samples.hung(works, 3, 6);
        String[] rows = {"121212", "343434", "434343", "212121", "121212", "343434"};
        checks.sentence("Promise 16: seen", "`x`: from 0, over all drops of the wall");
        for (int x : Samples.range(0, 5)) {
            checks.equal("column " + x, rows[2].charAt(x) - '0', () -> works.seen(0, 0, x, 2));
        }
        checks.sentence("Promise 16: seen", "`y`: from 0");
        for (int y : Samples.range(0, 5)) {
            checks.equal("row " + y, rows[y].charAt(3) - '0', () -> works.seen(0, 0, 3, y));
        }
        checks.sentence("Promise 16: seen", "`x`: from 0, over all drops of the wall");
        works.lengthen(0, 0, 1);
        checks.equal("the last column of a longer wall", 2, () -> works.seen(0, 0, 7, 0));
        RollerLeaf wide = withWidestWall();
        for (int x : new int[] {0, 4, 5, 9, 10, 119, 120, 234, 235, 239}) {
            checks.equal("column " + x + " of 240", "1234554321".charAt(x % 10) - '0', () -> wide.seen(0, 0, x, 0));
        }
        checks.outside("column 240 of 240", RoomTest::withWidestWall, w -> w.seen(0, 0, 240, 0));
    }

    private static void seenAsEngraved() {
        checks.sentence("Promise 16: seen", "Returns the colour as it was engraved; NONE if the room is bare, whatever x"
            + " and y are.");
        RollerLeaf works = Samples.withLot(2, 20, 40);
        Samples.withWalls(works, 0, 1, 2).hang(0, 0);
        works.paint(0, 0, 0, 5);
        checks.equal("painted after engraving", 1, () -> works.seen(0, 0, 0, 0));
        works.roller(0, 2);
        works.lot(1, 0, 1, 40);
        Samples.withWalls(works, 1, 1, 2).hang(1, 1);
        works.paint(0, 0, 0, 6);
        checks.equal("painted before engraving", 5, () -> works.seen(1, 0, 0, 0));
        checks.equal("another roller of the pattern", 1, () -> works.seen(0, 0, 0, 0));
        works.strip(0);
        works.hang(0, 0);
        checks.equal("hung anew from the lot", 1, () -> works.seen(0, 0, 0, 0));
        works.lot(0, 0, 1, 40);
        Samples.withWalls(works, 2, 1, 2).hang(2, 2);
        checks.equal("a lot printed after painting", 1, () -> works.seen(2, 0, 0, 0));
    }

    private static void seenOfWholeEngravings() {
        for (int symmetry : Samples.range(RollerLeaf.SHIFT, RollerLeaf.QUARTER)) {
            RollerLeaf works = Samples.painted(5, 5, symmetry);
            works.roller(0, 60);
            works.lot(0, 0, 1, 10);
            Samples.hung(works, 1, 10);
            for (int x : Samples.range(0, works.repeat(0, false) - 1)) {
                for (int y : Samples.range(0, 9)) {
                    checks.equal("symmetry " + symmetry + ", " + x + ", " + y, works.colour(0, x, y),
                        () -> works.seen(0, 0, x, y));
                }
            }
        }
    }

    private static void seenInItsPhase() {
        RollerLeaf works = Samples.hung(Samples.withPhasedRoom(5));
        // The repeat's left column is 1, 3, 5, 7, 1, 2, 0, 6, 4, 2; the phase is 6.
        int[] due = {0, 6, 4, 2, 1, 3, 5, 7, 1, 2};
        for (int y : Samples.range(0, 56)) {
            checks.equal("the second wall, row " + y, due[y % 10], () -> works.seen(0, 1, 6, y));
        }
        checks.equal("the least wall, its last row", due[5], () -> works.seen(0, 3, 0, 15));
    }

    private static void seenOfABareRoom() {
        int[] any = {LOWEST, -1, 0, 1, 4, 10, 60, 240, HIGHEST};
        for (int x : any) {
            for (int y : any) {
                checks.equal("never hung, " + x + ", " + y, -1, () -> withBareRoom().seen(0, 0, x, y));
                checks.equal("stripped, " + x + ", " + y, -1, () -> withStrippedRoom().seen(0, 0, x, y));
            }
        }
    }

    private static void seenExceptions() {
        checks.sentence("Promise 16: seen", "Throws `IndexOutOfBoundsException` as told, of room and wall, or if the room"
            + " is hung, and there is no such cell of the wall");
        Checks.World hung = () -> withWall(2);
        for (Checks.World world : new Checks.World[] {hung, RoomTest::withBareRoom, RoomTest::withStrippedRoom}) {
            String how = world.make().room(0, 2) == -1 ? "bare: " : "hung: ";
            for (int room : Samples.NO_ROOMS) {
                checks.outside(how + "room " + room, world, works -> works.seen(room, 0, 0, 0));
            }
            for (int wall : NO_WALLS) {
                checks.outside(how + "wall " + wall, world, works -> works.seen(0, wall, 0, 0));
            }
            checks.outside(how + "a wall of another room", world, works -> works.seen(1, 0, 0, 0));
        }
        // Two drops of 2 columns, 10 rows high.
        Checks.World high = () -> Samples.hung(Samples.withLot(4, 5, 40), 2, 10);
        int[][] wrong = {{-1, 0}, {0, -1}, {4, 0}, {0, 10}, {4, 10}, {LOWEST, 0}, {HIGHEST, 0}, {0, LOWEST}, {0, HIGHEST}};
        for (int[] w : wrong) {
            checks.outside("cell " + w[0] + ", " + w[1], high, works -> works.seen(0, 0, w[0], w[1]));
        }
        checks.equal("the first cell", 1, () -> high.make().seen(0, 0, 0, 0));
        checks.equal("the last cell", 4, () -> high.make().seen(0, 0, 3, 9));
        checks.equal("the highest wall's last cell", 0,
            () -> Samples.hung(Samples.withLot(4, 1, 60), 1, 60).seen(0, 0, 1, 59));
        checks.outside("a row above 60", () -> Samples.hung(Samples.withLot(4, 1, 60), 1, 60),
            works -> works.seen(0, 0, 1, 60));
    }

    // ---- promise 17

    private static void lostInAll() {
        checks.sentence("Promise 17: lost", "Returns how many rows of opened rolls were lost in all.");
        RollerLeaf works = Samples.withLot(4, 5, 40);
        works.lot(0, 1, 3, 17);
        checks.equal("at first", 0, works::lost);
        Samples.withWalls(works, 0, 2, 40).hang(0, 0);
        Samples.withWalls(works, 1, 3, 17).hang(1, 1);
        checks.equal("of hung rooms", 0, works::lost);
        works.strip(0);
        checks.equal("of the first room", 80, works::lost);
        checks.equal("lengthen the second too far", -1, () -> works.lengthen(1, 0, 1));
        checks.equal("of both rooms", 80 + 51, works::lost);
        works.hang(0, 0);
        checks.equal("hung anew", 80 + 51, works::lost);
        works.strip(0);
        checks.equal("of the first room again", 80 + 51 + 80, works::lost);
        RollerLeaf least = Samples.hung(Samples.withLot(1, 1, 1), 1, 1);
        least.strip(0);
        checks.equal("the least", 1, least::lost);
    }

    // ---- what the tests share

    /** The room 0 has one wall of drops of a row, and is hung; the repeat has one row. */
    private static RollerLeaf withWall(int drops) {
        return Samples.hung(Samples.withLot(1, 20, 200), drops, 1);
    }

    private static RollerLeaf withLongWall(int drops) {
        RollerLeaf works = withWall(12);
        if (drops > 12) {
            works.lengthen(0, 0, drops - 12);
        }
        return works;
    }

    /** 24 drops of 10 columns, a row high. */
    private static RollerLeaf withWidestWall() {
        RollerLeaf works = Samples.painted(5, 1, RollerLeaf.MIRROR);
        works.roller(0, 1);
        works.lot(0, 0, 1, 200);
        Samples.hung(works, 12, 1).lengthen(0, 0, 12);
        return works;
    }

    private static RollerLeaf withBareRoom() {
        return Samples.withWalls(Samples.withLot(4, 5, 40), 0, 2, 10);
    }

    private static RollerLeaf withStrippedRoom() {
        RollerLeaf works = Samples.hung(Samples.withLot(4, 5, 40), 2, 10);
        works.strip(0);
        return works;
    }

    private static int waste(RollerLeaf works) {
        return works.room(0, 5);
    }

    private static void cuts(String what, RollerLeaf works, int wall, int... due) {
        checks.answers(what + ", drop", works, (w, drop) -> w.cut(0, wall, drop), due);
    }

    private static void numbers(RollerLeaf works, int room, int... due) {
        checks.answers("room " + room + ", its number", works, (w, what) -> w.room(room, what), due);
    }
}
