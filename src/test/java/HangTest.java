/** What the document says of rooms, their drops and their phase, and promises 10 and 11: wall, hang. */
public final class HangTest {
    private static final int LOWEST = Samples.LOWEST;
    private static final int HIGHEST = Samples.HIGHEST;

    private static final Checks checks = new Checks("HangTest");

    public static void main(String[] args) {
        fourRooms();
        fourWalls();
        wallByWall();
        firstRollThatCan();
        asLongAsItHasSome();
        firstRowOfThePhase();
        repeatBySymmetryAlone();
        asFarAsTheDrop();
        phaseThatOpensFewest();
        phaseBySomeDropsAlone();
        phaseThatTheLotHasRollsFor();
        goneFromTheLot();
        beginsWithRow0();
        wallArguments();
        wallsNumber();
        wallExceptions();
        hangAnswers();
        hangNoSuch();
        hangExceptions();
        checks.finish();
    }

    // ---- terms

    private static void fourRooms() {
        checks.sentence("Rooms", "There are the rooms 0 to 3.");
        RollerLeaf works = Samples.withLot(4, 20, 200);
        for (int room : Samples.range(0, 3)) {
            checks.equal("wall in room " + room, 0, () -> works.wall(room, room + 1, 10));
            checks.equal("hang room " + room, 1, () -> works.hang(room, 0));
        }
        for (int room : Samples.range(0, 3)) {
            checks.equal("drops of room " + room, room + 1, () -> works.room(room, 1));
        }
        for (int room : Samples.NO_ROOMS) {
            Checks.World world = () -> Samples.withLot(4, 20, 40);
            checks.outside("wall in room " + room, world, w -> w.wall(room, 1, 1));
            checks.outside("number of room " + room, world, w -> w.room(room, 0));
        }
    }

    private static void fourWalls() {
        checks.sentence("Rooms", "A room has walls, at most 4, each so many drops, 1 to 12, side by side, of a height,"
            + " 1 to 60 rows.");
        RollerLeaf works = new RollerLeaf();
        checks.equal("the least wall", 0, () -> works.wall(0, 1, 1));
        checks.equal("the greatest wall", 1, () -> works.wall(0, 12, 60));
        checks.equal("a third wall", 2, () -> works.wall(0, 2, 2));
        checks.equal("a fourth wall", 3, () -> works.wall(0, 3, 3));
        checks.equal("its walls", 4, () -> works.room(0, 0));
        checks.equal("its drops", 18, () -> works.room(0, 1));
        checks.equal("the first wall of another room", 0, () -> works.wall(3, 1, 1));
        checks.badState("a fifth wall", () -> withWalls(4), w -> w.wall(0, 1, 1));
        checks.outside("the wall 4 of 4", () -> withWalls(4), w -> w.cut(0, 4, 0));
        checks.outside("the wall 3 of 3", () -> withWalls(3), w -> w.cut(0, 3, 0));
    }

    private static void wallByWall() {
        checks.sentence("Rooms", "To hang a room from a lot is to cut all its drops, wall by wall, drop by drop: from the"
            + " first one of the rolls opened for it that can give it, in the order in which they were opened, or a new"
            + " one of the lot, as long as it has some.");
        cuts("the higher wall first", Samples.hung(Samples.withLot(4, 20, 50), 2, 30, 2, 10),
            new int[] {0, 1000}, new int[] {32, 1032});
        cuts("the lower wall first", Samples.hung(Samples.withLot(4, 20, 50), 2, 10, 2, 30),
            new int[] {0, 12}, new int[] {1000, 2000});
        cuts("one drop", Samples.hung(Samples.withLot(4, 20, 50), 1, 1), new int[] {0});
        cuts("four walls", Samples.hung(Samples.withLot(1, 20, 10), 1, 4, 1, 3, 1, 2, 1, 1),
            new int[] {0}, new int[] {4}, new int[] {7}, new int[] {9});
        cuts("twelve drops", Samples.hung(Samples.withLot(1, 20, 5), 12, 1),
            new int[] {0, 1, 2, 3, 4, 1000, 1001, 1002, 1003, 1004, 2000, 2001});
    }

    private static void firstRollThatCan() {
        cuts("what is left of earlier rolls", Samples.hung(Samples.withLot(10, 20, 100), 3, 45, 2, 60, 3, 35, 3, 10),
            new int[] {0, 50, 1000}, new int[] {2000, 3000}, new int[] {1050, 2060, 3060}, new int[] {1090, 4000, 4010});
        // The roll 1 has less left than the roll 0, and just enough.
        cuts("not the roll with the least left", Samples.hung(Samples.withLot(1, 20, 10), 1, 6, 1, 7, 1, 3, 1, 3),
            new int[] {0}, new int[] {1000}, new int[] {6}, new int[] {1007});
        cuts("not the roll with the most left", Samples.hung(Samples.withLot(1, 20, 10), 1, 7, 1, 6, 1, 3, 1, 3),
            new int[] {0}, new int[] {1000}, new int[] {7}, new int[] {1006});
    }

    private static void asLongAsItHasSome() {
        for (int rolls : new int[] {1, 2, 12, 20}) {
            int drops = Math.min(rolls, 12);
            Checks.World world = () -> Samples.withWalls(Samples.withLot(4, rolls, 40), 0, drops, 40, 12, 33);
            checks.badState(rolls + " rolls for " + drops + " and 12 drops", world, works -> works.hang(0, 0));
        }
        checks.equal("20 rolls for 20 drops", 20, () -> withWholeRolls(20, 12, 8).hang(0, 0));
        checks.equal("the last of 20", 19000,
            () -> Samples.hung(Samples.withLot(4, 20, 40), 12, 40, 8, 40).cut(0, 1, 7));
        checks.badState("20 rolls for 21 drops", () -> withWholeRolls(20, 12, 9), works -> works.hang(0, 0));
        checks.equal("1 roll for 1 drop", 1, () -> withWholeRolls(1, 1).hang(0, 0));
        checks.badState("1 roll for 2 drops", () -> withWholeRolls(1, 2), works -> works.hang(0, 0));
        checks.badState("1 roll for 2 drops of 2 walls", () -> withWholeRolls(1, 1, 1), works -> works.hang(0, 0));
    }

    private static void firstRowOfThePhase() {
        checks.sentence("Rooms", "A roll gives a drop at the first row from its last cut on, 0 at first, that is the phase"
            + " of the room, modulo the rows of the repeat, if its length reaches as far as the drop from there.");
        cuts("drops of one repeat", Samples.hung(Samples.withLot(4, 1, 200), 4, 4), new int[] {0, 4, 8, 12});
        cuts("a row less", Samples.hung(Samples.withLot(4, 1, 200), 4, 3), new int[] {0, 4, 8, 12});
        cuts("a row more", Samples.hung(Samples.withLot(4, 1, 200), 4, 5), new int[] {0, 8, 16, 24});
        cuts("a row less than two repeats", Samples.hung(Samples.withLot(4, 1, 200), 4, 7), new int[] {0, 8, 16, 24});
        cuts("one row, a repeat of 10", Samples.hung(Samples.withLot(10, 1, 200), 3, 1), new int[] {0, 10, 20});
        cuts("11 rows, a repeat of 10", Samples.hung(Samples.withLot(10, 1, 200), 3, 11), new int[] {0, 20, 40});
        cuts("a repeat of one row", Samples.hung(Samples.withLot(1, 1, 200), 3, 7), new int[] {0, 7, 14});
        cuts("by the phase 3 of 4, beginning and ending with it", Samples.hung(Samples.withLot(4, 4, 37), 4, 11, 4, 14, 2, 10),
            new int[] {3, 15, 1003, 1015}, new int[] {2003, 2019, 3003, 3019}, new int[] {27, 1027});
        cuts("by the phase 6 of 10", Samples.hung(Samples.withPhasedRoom(20)), new int[] {6},
            new int[] {46, 1006, 1066, 2006}, new int[] {106, 136},
            new int[] {1126, 1146, 2066, 2086, 2106, 2126, 2146});
        cuts("the last row that a drop can begin at", Samples.hung(Samples.withLot(1, 1, 200), 3, 60, 1, 19, 1, 1),
            new int[] {0, 60, 120}, new int[] {180}, new int[] {199});
    }

    private static void repeatBySymmetryAlone() {
        RollerLeaf longRound = Samples.withRoller(4, 60);
        longRound.lot(0, 0, 20, 100);
        cuts("the round is of no account", Samples.hung(longRound, 3, 6), new int[] {0, 8, 16});
        RollerLeaf oneColour = new RollerLeaf();
        oneColour.pattern(2, 5, RollerLeaf.BOTH);
        oneColour.roller(0, 10);
        oneColour.lot(0, 0, 20, 100);
        cuts("nor is what is found anew", Samples.hung(oneColour, 3, 6), new int[] {0, 10, 20});
    }

    private static void asFarAsTheDrop() {
        cuts("as far", Samples.hung(Samples.withLot(5, 20, 25), 4, 10, 2, 5),
            new int[] {0, 10, 1000, 1010}, new int[] {20, 1020});
        cuts("a row too short", Samples.hung(Samples.withLot(5, 20, 24), 4, 10, 2, 5),
            new int[] {0, 10, 1000, 1010}, new int[] {2000, 2005});
        cuts("a whole roll", Samples.hung(Samples.withLot(4, 20, 40), 2, 40), new int[] {0, 1000});
        cuts("the least roll", Samples.hung(Samples.withLot(10, 20, 1), 2, 1), new int[] {0, 1000});
        cuts("as far, but not from the phase on", Samples.hung(Samples.withLot(4, 20, 11), 2, 5), new int[] {0, 1000});
        checks.badState("a drop a row longer than a roll",
            () -> Samples.withWalls(Samples.withLot(4, 20, 40), 0, 1, 41),
            works -> works.hang(0, 0));
        checks.badState("the last drop a row longer than a roll",
            () -> Samples.withWalls(Samples.withLot(4, 20, 40), 0, 12, 10, 12, 10, 12, 40, 1, 41),
                works -> works.hang(0, 0));
    }

    private static void phaseThatOpensFewest() {
        checks.sentence("Rooms", "The phase is that, of 0 to the rows of the repeat less 1, by which the fewest rolls are"
            + " opened, of several the lowest; one by which even a new roll cannot give some drop is none of them.");
        // Behind each, the rolls that are opened by 0 and by each phase after it.
        phased(0, 1, withWalled(10, 60, 1, 20), "1 by all");
        phased(0, 2, withWalled(1, 10, 2, 6), "2 by the only one");
        phased(1, 5, withWalled(2, 24, 1, 22, 4, 8, 4, 10, 2, 7), "6 5");
        phased(1, 3, withWalled(3, 24, 2, 8, 3, 6, 2, 7, 3, 5), "4 3 4");
        phased(2, 3, withWalled(3, 48, 1, 18, 2, 29, 1, 9, 3, 16), "4 4 3");
        phased(1, 3, withWalled(4, 31, 2, 15, 1, 1, 1, 20, 3, 9), "4 3 3 4");
        phased(3, 4, withWalled(4, 37, 4, 11, 4, 14, 2, 10), "5 5 5 4");
        phased(4, 4, withWalled(5, 55, 1, 38, 1, 12, 4, 22, 4, 11), "5 5 5 5 4");
        phased(1, 3, withWalled(6, 42, 2, 5, 1, 30, 2, 18, 4, 7), "4 3 3 3 3 3");
        phased(5, 3, withWalled(6, 75, 3, 24, 1, 23, 2, 28, 2, 22), "4 4 4 4 4 3");
        phased(7, 3, withWalled(8, 51, 4, 13, 2, 17, 2, 12), "4 4 4 4 4 4 4 3");
        phased(1, 3, withWalled(10, 49, 1, 17, 2, 29, 1, 3, 3, 13), "4 3 3 3 3 3 3 5 5 5");
        phased(9, 3, withWalled(10, 65, 4, 17, 2, 24, 2, 16), "4 4 4 4 4 4 4 4 4 3");
        // The rows of the repeat themselves are no phase, though fewer rolls would do by them.
        phased(0, 4, withWalled(1, 24, 1, 10, 2, 14, 1, 2, 3, 9), "4, behind it 3");
        phased(0, 4, withWalled(2, 25, 4, 8, 1, 12, 1, 11, 2, 7), "4 4, behind them 3");
        phased(0, 4, withWalled(3, 38, 4, 12, 2, 17, 2, 11), "4 4 4, behind them 3");
        phased(0, 5, withWalled(10, 97, 4, 28, 2, 43, 2, 22, 2, 32), "10 times 5, behind them 4");
    }

    private static void phaseBySomeDropsAlone() {
        phased(1, 4, withWalled(3, 43, 4, 13, 2, 20, 1, 42, 2, 11), "5 4 none");
        phased(1, 6, withWalled(4, 23, 3, 22, 4, 7, 2, 9, 2, 5), "7 6 none none");
        phased(1, 4, withWalled(5, 30, 4, 10, 1, 27, 2, 12, 2, 9), "5 4 5 5 none");
        phased(2, 4, withWalled(10, 56, 4, 15, 2, 22, 2, 12, 1, 48), "5 5 4 4 4 5 5 5 5 none");
        phased(0, 3, withWalled(4, 40, 3, 40), "3 none none none");
        phased(0, 2, withWalled(10, 3, 2, 2), "2 2 none, by most even the roll has no such row");
        checks.badState("none by all", withWalled(4, 40, 1, 1, 1, 41), works -> works.hang(0, 0));
    }

    private static void phaseThatTheLotHasRollsFor() {
        RollerLeaf works = Samples.withPhasedRoom(3);
        checks.equal("3 rolls, though 4 by the phase 0", 3, () -> works.hang(0, 0));
        checks.equal("the phase", 6, () -> works.room(0, 3));
        checks.equal("rolls left", 0, () -> works.lotOf(0, 2));
        checks.badState("2 rolls, though 3 by the phase 6", () -> Samples.withPhasedRoom(2), w -> w.hang(0, 0));
    }

    private static void goneFromTheLot() {
        checks.sentence("Rooms", "Rolls that are opened are gone from the lot.");
        Checks.World world = () -> {
            RollerLeaf works = Samples.hung(Samples.withLot(4, 5, 40), 3, 40);
            Samples.withWalls(works, 1, 3, 40);
            return Samples.withWalls(works, 2, 2, 40);
        };
        checks.equal("2 of 5 are left", 2, () -> world.make().lotOf(0, 2));
        checks.badState("3 are too many for another room", world, works -> works.hang(1, 0));
        checks.equal("2 are not", 2, () -> world.make().hang(2, 0));
        RollerLeaf works = world.make();
        works.strip(0);
        checks.equal("2 are left when the room is stripped", 2, () -> works.lotOf(0, 2));
        works.hang(2, 0);
        checks.equal("none is left", 0, () -> works.lotOf(0, 2));
        checks.badState("not even for one row", HangTest::withNoRollLeft, w -> w.hang(3, 0));
        RollerLeaf ofTwoLots = Samples.withLot(4, 5, 40);
        ofTwoLots.lot(0, 0, 7, 40);
        Samples.withWalls(ofTwoLots, 0, 3, 40).hang(0, 1);
        checks.equal("none is gone from the lot 0", 5, () -> ofTwoLots.lotOf(0, 2));
        checks.equal("but from the lot 1", 4, () -> ofTwoLots.lotOf(1, 2));
    }

    private static void beginsWithRow0() {
        checks.sentence("Patterns", "All rolls begin with the row 0 of the pattern; a roll has the columns of one repeat.");
        RollerLeaf works = Samples.hung(Samples.withLot(3, 20, 3), 3, 2);
        for (int drop : Samples.range(0, 2)) {
            checks.equal("the drop " + drop + " has a roll of its own", 1000 * drop, () -> works.cut(0, 0, drop));
            checks.equal("the drop " + drop + ", its first cell", 1, () -> works.seen(0, 0, 2 * drop, 0));
            checks.equal("the drop " + drop + ", its last cell", 4, () -> works.seen(0, 0, 2 * drop + 1, 1));
        }
        for (int symmetry : Samples.range(RollerLeaf.SHIFT, RollerLeaf.QUARTER)) {
            Checks.World world = () -> withTwoDrops(symmetry);
            int columns = world.make().repeat(0, false);
            int last = world.make().colour(0, columns - 1, 0);
            checks.equal("symmetry " + symmetry + ", the last cell", last,
                () -> world.make().seen(0, 0, 2 * columns - 1, 0));
            checks.outside("symmetry " + symmetry + ", a cell more", world, w -> w.seen(0, 0, 2 * columns, 0));
        }
    }

    // ---- promise 10

    private static void wallArguments() {
        checks.sentence("Promise 10: wall", "`drops`: 1 to 12");
        for (int drops : Samples.range(1, 12)) {
            RollerLeaf works = new RollerLeaf();
            checks.equal(drops + " drops", 0, () -> works.wall(0, drops, 1));
            checks.equal(drops + " drops of the room", drops, () -> works.room(0, 1));
        }
        for (int drops : new int[] {0, 13, 24, -1, LOWEST, HIGHEST}) {
            checks.badArgument(drops + " drops", () -> withWalls(1), works -> works.wall(0, drops, 1));
        }
        checks.sentence("Promise 10: wall", "`height`: 1 to 60");
        for (int height : new int[] {1, 2, 59, 60}) {
            RollerLeaf works = Samples.hung(Samples.withLot(1, 1, 60), 1, height);
            checks.equal("a height of " + height, 60 - height, () -> works.room(0, 5));
        }
        for (int height : new int[] {0, 61, -1, LOWEST, HIGHEST}) {
            checks.badArgument("a height of " + height, () -> withWalls(1), works -> works.wall(0, 1, height));
        }
    }

    private static void wallsNumber() {
        checks.sentence("Promise 10: wall", "Returns its number.");
        RollerLeaf works = Samples.withLot(1, 20, 60);
        checks.equal("the first", 0, () -> works.wall(2, 1, 1));
        checks.equal("the second", 1, () -> works.wall(2, 1, 2));
        checks.equal("the first of another room", 0, () -> works.wall(1, 1, 3));
        works.hang(2, 0);
        works.strip(2);
        checks.equal("the third, after the room was hung", 2, () -> works.wall(2, 1, 4));
        checks.equal("the last", 3, () -> works.wall(2, 1, 5));
        works.hang(2, 0);
        checks.equal("all walls, cut by their numbers", 7, () -> works.cut(2, 3, 0));
    }

    private static void wallExceptions() {
        checks.sentence("Promise 10: wall", "Throws `IndexOutOfBoundsException` as told");
        for (int room : Samples.NO_ROOMS) {
            checks.outside("room " + room, () -> withWalls(1), works -> works.wall(room, 1, 1));
            checks.outside("room " + room + ", wrong drops", () -> withWalls(1), works -> works.wall(room, 0, 1));
        }
        checks.sentence("Promise 10: wall", "Throws `IllegalArgumentException` if drops or height is out of range");
        int[][] wrong = {{0, 1}, {13, 1}, {1, 0}, {1, 61}, {0, 0}, {13, 61}, {0, 61}};
        for (int[] w : wrong) {
            String what = w[0] + " drops, " + w[1] + " rows";
            checks.badArgument(what, () -> withWalls(0), works -> works.wall(0, w[0], w[1]));
            checks.badArgument(what + ", 4 walls", () -> withWalls(4), works -> works.wall(0, w[0], w[1]));
            checks.badArgument(what + ", hung", HangTest::withHungRoom, works -> works.wall(0, w[0], w[1]));
        }
        checks.sentence("Promise 10: wall", "Throws `IllegalStateException` if it is hung, or has 4 walls");
        checks.badState("hung, 1 wall", HangTest::withHungRoom, works -> works.wall(0, 1, 1));
        checks.badState("hung, 4 walls", () -> Samples.hung(Samples.withLot(1, 1, 60), 1, 1, 1, 1, 1, 1, 1, 1),
            works -> works.wall(0, 1, 1));
        checks.equal("3 walls", 3, () -> withWalls(3).wall(0, 1, 1));
        checks.badState("4 walls", () -> withWalls(4), works -> works.wall(0, 1, 1));
        RollerLeaf works = withHungRoom();
        checks.equal("another room is not hung", 0, () -> works.wall(1, 1, 1));
        checks.sentence("Promise 10: wall", "Adds a wall to a room that is bare.");
        works.strip(0);
        checks.equal("a stripped room is bare", 1, () -> works.wall(0, 2, 1));
        checks.equal("it has all its drops", 5, () -> works.room(0, 1));
        RollerLeaf lengthened = Samples.hung(Samples.withLot(4, 1, 40), 1, 40);
        checks.equal("lengthen too far", -1, () -> lengthened.lengthen(0, 0, 1));
        checks.equal("a room that could not be lengthened is bare", 1, () -> lengthened.wall(0, 3, 1));
        checks.equal("it has all its drops", 5, () -> lengthened.room(0, 1));
    }

    // ---- promise 11

    private static void hangAnswers() {
        checks.sentence("Promise 11: hang", "Returns how many rolls are opened.");
        checks.equal("the fewest", 1, () -> withWholeRolls(20, 1).hang(0, 0));
        checks.equal("the most", 20, () -> withWholeRolls(20, 5, 5, 5, 5).hang(0, 0));
        RollerLeaf works = withWholeRolls(20, 3);
        works.hang(0, 0);
        works.strip(0);
        checks.equal("hung anew", 3, () -> works.hang(0, 0));
        checks.equal("a room apart", 2, () -> Samples.withWalls(works, 3, 2, 40).hang(3, 0));
        RollerLeaf anew = Samples.hung(Samples.withLot(10, 2, 100), 12, 10, 1, 10);
        checks.equal("lengthen too far", -1, () -> anew.lengthen(0, 0, 12));
        anew.lot(0, 0, 3, 200);
        checks.equal("hung anew with a wall of 24 drops, from another lot", 2, () -> anew.hang(0, 1));
        checks.equal("the 20th drop", 190, () -> anew.cut(0, 0, 19));
        checks.equal("the 24th drop", 1030, () -> anew.cut(0, 0, 23));
        checks.equal("the drop of the next wall", 1040, () -> anew.cut(0, 1, 0));
    }

    private static void hangNoSuch() {
        checks.sentence("Promise 11: hang", "Throws `IndexOutOfBoundsException` as told, of both");
        Checks.World bare = () -> withWholeRolls(20, 2);
        for (int room : Samples.NO_ROOMS) {
            checks.outside("room " + room, bare, works -> works.hang(room, 0));
            checks.outside("room " + room + ", no lot", bare, works -> works.hang(room, 1));
        }
        for (int lot : new int[] {-1, 1, 9, 10, LOWEST, HIGHEST}) {
            checks.outside("lot " + lot, bare, works -> works.hang(0, lot));
            checks.outside("lot " + lot + ", no wall", bare, works -> works.hang(1, lot));
            checks.outside("lot " + lot + ", hung", HangTest::withHungRoom, works -> works.hang(0, lot));
        }
    }

    private static void hangExceptions() {
        checks.sentence("Promise 11: hang", "Throws `IllegalStateException` if it is hung, has no wall, or the lot has too"
            + " few rolls by all phases");
        checks.badState("hung", HangTest::withHungRoom, works -> works.hang(0, 0));
        Checks.World ofTwoLots = () -> {
            RollerLeaf works = withHungRoom();
            works.lot(0, 0, 20, 200);
            return works;
        };
        checks.badState("hung, from another lot", ofTwoLots, works -> works.hang(0, 1));
        for (int room : Samples.range(0, 3)) {
            checks.badState("no wall in room " + room, () -> Samples.withLot(4, 20, 40), works -> works.hang(room, 0));
        }
        checks.badState("too few by all", () -> withWholeRolls(2, 3), works -> works.hang(0, 0));
        checks.equal("just enough", 3, () -> withWholeRolls(3, 3).hang(0, 0));
        checks.badState("no roll is left", HangTest::withNoRollLeft, works -> works.hang(3, 0));
    }

    // ---- what the tests share

    private static RollerLeaf withWalls(int count) {
        RollerLeaf works = new RollerLeaf();
        for (int wall = 0; wall < count; wall++) {
            works.wall(0, 1, wall + 1);
        }
        return works;
    }

    /** The room 0 has walls of so many drops, each as long as a roll. */
    private static RollerLeaf withWholeRolls(int rolls, int... drops) {
        RollerLeaf works = Samples.withLot(4, rolls, 40);
        for (int ofAWall : drops) {
            works.wall(0, ofAWall, 40);
        }
        return works;
    }

    private static RollerLeaf withHungRoom() {
        return Samples.hung(Samples.withLot(4, 5, 40), 3, 10);
    }

    /** The rooms 0 and 3 have a wall; the room 0 is hung with all rolls. */
    private static RollerLeaf withNoRollLeft() {
        return Samples.withWalls(Samples.hung(Samples.withLot(4, 2, 40), 2, 40), 3, 1, 1);
    }

    private static RollerLeaf withTwoDrops(int symmetry) {
        RollerLeaf works = Samples.painted(5, 5, symmetry);
        works.roller(0, 10);
        works.lot(0, 0, 1, 20);
        return Samples.hung(works, 2, 1);
    }

    private static Checks.World withWalled(int repeatRows, int length, int... walls) {
        return () -> Samples.withWalls(Samples.withLot(repeatRows, 20, length), 0, walls);
    }

    private static void phased(int phase, int rolls, Checks.World world, String rollsByPhase) {
        RollerLeaf works = world.make();
        checks.equal("rolls, " + rollsByPhase, rolls, () -> works.hang(0, 0));
        checks.equal("phase, " + rollsByPhase, phase, () -> works.room(0, 3));
        checks.equal("first cut, " + rollsByPhase, phase, () -> works.cut(0, 0, 0));
    }

    private static void cuts(String what, RollerLeaf works, int[]... walls) {
        for (int wall : Samples.range(0, walls.length - 1)) {
            checks.answers(what + ", wall " + wall + ", drop", works, (w, drop) -> w.cut(0, wall, drop), walls[wall]);
            checks.equal(what + ", drops", drops(walls), () -> works.room(0, 1));
        }
    }

    private static int drops(int[][] walls) {
        int sum = 0;
        for (int[] wall : walls) {
            sum += wall.length;
        }
        return sum;
    }
}
