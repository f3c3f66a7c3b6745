import java.util.ArrayList;
import java.util.List;

/** What the document says of exceptions: what they are for, which goes first, and that they change nothing. */
public final class RefusalTest {
    private static final Checks checks = new Checks("RefusalTest");

    /** A call and the exception that is due. */
    private record Refused(String what, Class<? extends RuntimeException> due, Checks.Deed deed) {
    }

    private static final Class<IndexOutOfBoundsException> OUTSIDE = IndexOutOfBoundsException.class;
    private static final Class<IllegalArgumentException> ARGUMENT = IllegalArgumentException.class;
    private static final Class<IllegalStateException> STATE = IllegalStateException.class;

    public static void main(String[] args) {
        noSuch();
        firstOfSeveral();
        nothingIsChanged();
        checks.finish();
    }

    private static void noSuch() {
        checks.sentence("Rooms", "IndexOutOfBoundsException: there is no such pattern, roller, lot, room, wall, drop, or"
            + " cell of a motif.");
        List<Refused> calls = new ArrayList<>();
        for (int number : new int[] {-1, 2, 6}) {
            calls.add(new Refused("paint of pattern " + number, OUTSIDE, works -> works.paint(number, 0, 0, 0)));
            calls.add(new Refused("colour of pattern " + number, OUTSIDE, works -> works.colour(number, 0, 0)));
            calls.add(new Refused("repeat of pattern " + number, OUTSIDE, works -> works.repeat(number, true)));
            calls.add(new Refused("repeatAnew of pattern " + number, OUTSIDE, works -> works.repeatAnew(number, true)));
            calls.add(new Refused("roller of pattern " + number, OUTSIDE, works -> works.roller(number, 60)));
        }
        for (int number : new int[] {-1, 3, 10}) {
            calls.add(new Refused("lot of roller " + number, OUTSIDE, works -> works.lot(number, 0, 1, 1)));
            calls.add(new Refused("number of lot " + number, OUTSIDE, works -> works.lotOf(number, 0)));
            calls.add(new Refused("hang from lot " + number, OUTSIDE, works -> works.hang(1, number)));
        }
        for (int number : new int[] {-1, 4}) {
            calls.add(new Refused("wall of room " + number, OUTSIDE, works -> works.wall(number, 1, 1)));
            calls.add(new Refused("hang room " + number, OUTSIDE, works -> works.hang(number, 0)));
            calls.add(new Refused("lengthen in room " + number, OUTSIDE, works -> works.lengthen(number, 0, 1)));
            calls.add(new Refused("strip room " + number, OUTSIDE, works -> works.strip(number)));
            calls.add(new Refused("number of room " + number, OUTSIDE, works -> works.room(number, 0)));
            calls.add(new Refused("cut in room " + number, OUTSIDE, works -> works.cut(number, 0, 0)));
            calls.add(new Refused("seen in room " + number, OUTSIDE, works -> works.seen(number, 0, 0, 0)));
        }
        for (int number : new int[] {-1, 2, 4}) {
            calls.add(new Refused("lengthen wall " + number, OUTSIDE, works -> works.lengthen(0, number, 1)));
            calls.add(new Refused("cut in wall " + number, OUTSIDE, works -> works.cut(0, number, 0)));
            calls.add(new Refused("seen of wall " + number, OUTSIDE, works -> works.seen(0, number, 0, 0)));
        }
        for (int number : new int[] {-1, 3, 24}) {
            calls.add(new Refused("cut of drop " + number, OUTSIDE, works -> works.cut(0, 0, number)));
            calls.add(new Refused("paint column " + number, OUTSIDE, works -> works.paint(0, number, 0, 0)));
            calls.add(new Refused("paint row " + number, OUTSIDE, works -> works.paint(0, 0, number, 0)));
        }
        areRefused("busy: ", RefusalTest::busy, calls);
    }

    private static void firstOfSeveral() {
        checks.sentence("Rooms", "If several exceptions apply, the one that is named first in the throws clause is thrown.");
        List<Refused> calls = new ArrayList<>();
        calls.add(new Refused("pattern: argument, state", ARGUMENT, works -> works.pattern(0, 1, 0)));
        calls.add(new Refused("pattern: unlike for QUARTER, state", ARGUMENT,
            works -> works.pattern(1, 2, RollerLeaf.QUARTER)));
        calls.add(new Refused("paint: pattern, argument", OUTSIDE, works -> works.paint(6, 0, 0, 8)));
        calls.add(new Refused("paint: column, argument", OUTSIDE, works -> works.paint(0, 2, 0, 8)));
        calls.add(new Refused("paint: row, argument", OUTSIDE, works -> works.paint(0, 0, 2, -1)));
        calls.add(new Refused("roller: pattern, argument, state", OUTSIDE, works -> works.roller(6, 61)));
        calls.add(new Refused("roller: pattern, state", OUTSIDE, works -> works.roller(6, 60)));
        calls.add(new Refused("roller: argument, no repeat, state", ARGUMENT, works -> works.roller(0, 61)));
        calls.add(new Refused("roller: argument, state", ARGUMENT, works -> works.roller(0, 0)));
        calls.add(new Refused("lot: roller, argument, state", OUTSIDE, works -> works.lot(8, 10, 21, 201)));
        calls.add(new Refused("lot: roller, state", OUTSIDE, works -> works.lot(8, 0, 1, 1)));
        calls.add(new Refused("lot: dye, state", ARGUMENT, works -> works.lot(0, 10, 1, 1)));
        calls.add(new Refused("lot: rolls, state", ARGUMENT, works -> works.lot(0, 0, 21, 1)));
        calls.add(new Refused("lot: length, state", ARGUMENT, works -> works.lot(0, 0, 1, 201)));
        calls.add(new Refused("lotOf: lot, argument", OUTSIDE, works -> works.lotOf(10, 5)));
        calls.add(new Refused("wall: room, argument", OUTSIDE, works -> works.wall(4, 0, 0)));
        calls.add(new Refused("wall: drops, 4 walls", ARGUMENT, works -> works.wall(0, 13, 1)));
        calls.add(new Refused("wall: height, 4 walls", ARGUMENT, works -> works.wall(0, 1, 61)));
        calls.add(new Refused("wall: drops, hung", ARGUMENT, works -> works.wall(1, 0, 1)));
        calls.add(new Refused("wall: height, hung", ARGUMENT, works -> works.wall(1, 1, 0)));
        calls.add(new Refused("hang: lot, hung", OUTSIDE, works -> works.hang(1, 10)));
        calls.add(new Refused("hang: lot, no wall", OUTSIDE, works -> works.hang(2, -1)));
        calls.add(new Refused("hang: room, lot", OUTSIDE, works -> works.hang(4, 10)));
        calls.add(new Refused("lengthen: room, argument", OUTSIDE, works -> works.lengthen(-1, 0, 0)));
        calls.add(new Refused("lengthen: wall, argument", OUTSIDE, works -> works.lengthen(1, 4, 13)));
        calls.add(new Refused("lengthen: wall, argument, bare", OUTSIDE, works -> works.lengthen(2, 0, 13)));
        calls.add(new Refused("lengthen: wall, bare", OUTSIDE, works -> works.lengthen(0, 4, 1)));
        calls.add(new Refused("lengthen: argument, bare", ARGUMENT, works -> works.lengthen(0, 0, 0)));
        calls.add(new Refused("lengthen: argument, 24 drops", ARGUMENT, works -> works.lengthen(1, 0, 13)));
        calls.add(new Refused("room: room, argument", OUTSIDE, works -> works.room(4, 6)));
        areRefused("full: ", RefusalTest::full, calls);
    }

    private static void nothingIsChanged() {
        checks.sentence("Rooms", "A call that throws an exception changes nothing.");
        List<Refused> ofBusy = new ArrayList<>();
        ofBusy.add(new Refused("pattern, columns", ARGUMENT, works -> works.pattern(6, 1, 0)));
        ofBusy.add(new Refused("pattern, rows", ARGUMENT, works -> works.pattern(1, 0, 0)));
        ofBusy.add(new Refused("pattern, symmetry", ARGUMENT, works -> works.pattern(1, 1, 6)));
        ofBusy.add(new Refused("pattern, QUARTER", ARGUMENT, works -> works.pattern(1, 2, 5)));
        ofBusy.add(new Refused("paint, colour", ARGUMENT, works -> works.paint(0, 0, 0, 8)));
        ofBusy.add(new Refused("paint, a cell of the repeat alone", OUTSIDE, works -> works.paint(0, 0, 2, 5)));
        ofBusy.add(new Refused("roller, round", ARGUMENT, works -> works.roller(0, 64)));
        ofBusy.add(new Refused("roller, the round does not hold the repeat", STATE, works -> works.roller(0, 58)));
        ofBusy.add(new Refused("lot, dye", ARGUMENT, works -> works.lot(0, -1, 20, 200)));
        ofBusy.add(new Refused("lot, rolls", ARGUMENT, works -> works.lot(0, 0, 0, 200)));
        ofBusy.add(new Refused("lot, length", ARGUMENT, works -> works.lot(0, 0, 20, 0)));
        ofBusy.add(new Refused("lotOf, what", ARGUMENT, works -> works.lotOf(0, 5)));
        ofBusy.add(new Refused("wall, drops", ARGUMENT, works -> works.wall(1, 0, 1)));
        ofBusy.add(new Refused("wall, height", ARGUMENT, works -> works.wall(2, 1, 0)));
        ofBusy.add(new Refused("wall, hung", STATE, works -> works.wall(0, 1, 1)));
        ofBusy.add(new Refused("hang, hung", STATE, works -> works.hang(0, 2)));
        ofBusy.add(new Refused("hang, no wall", STATE, works -> works.hang(2, 2)));
        ofBusy.add(new Refused("hang, too few rolls for the last drops", STATE, works -> works.hang(1, 0)));
        ofBusy.add(new Refused("hang, no roll left", STATE, works -> works.hang(1, 1)));
        ofBusy.add(new Refused("hang, stripped before, too few rolls", STATE, works -> works.hang(3, 0)));
        ofBusy.add(new Refused("lengthen, drops", ARGUMENT, works -> works.lengthen(0, 0, 0)));
        ofBusy.add(new Refused("lengthen, bare", STATE, works -> works.lengthen(1, 0, 1)));
        ofBusy.add(new Refused("lengthen, stripped", STATE, works -> works.lengthen(3, 0, 1)));
        ofBusy.add(new Refused("strip, bare", STATE, works -> works.strip(1)));
        ofBusy.add(new Refused("strip, without a wall", STATE, works -> works.strip(2)));
        ofBusy.add(new Refused("strip, stripped", STATE, works -> works.strip(3)));
        ofBusy.add(new Refused("room, what", ARGUMENT, works -> works.room(0, 6)));
        ofBusy.add(new Refused("cut, drop", OUTSIDE, works -> works.cut(0, 0, 3)));
        ofBusy.add(new Refused("cut, drop of a bare room", OUTSIDE, works -> works.cut(1, 0, 2)));
        ofBusy.add(new Refused("seen, column", OUTSIDE, works -> works.seen(0, 0, 6, 0)));
        ofBusy.add(new Refused("seen, row", OUTSIDE, works -> works.seen(0, 0, 0, 18)));
        areRefused("busy: ", RefusalTest::busy, ofBusy);
        List<Refused> ofFull = new ArrayList<>();
        ofFull.add(new Refused("a seventh pattern", STATE, works -> works.pattern(1, 1, 0)));
        ofFull.add(new Refused("a ninth roller", STATE, works -> works.roller(5, 60)));
        ofFull.add(new Refused("an eleventh lot", STATE, works -> works.lot(0, 0, 1, 1)));
        ofFull.add(new Refused("a fifth wall", STATE, works -> works.wall(0, 1, 1)));
        ofFull.add(new Refused("a fifth wall, hung", STATE, works -> works.wall(1, 1, 1)));
        ofFull.add(new Refused("a 25th drop", STATE, works -> works.lengthen(1, 0, 1)));
        ofFull.add(new Refused("a 36th drop", STATE, works -> works.lengthen(1, 0, 12)));
        areRefused("full: ", RefusalTest::full, ofFull);
    }

    /** Each call alone is refused and changes nothing, nor do all of them one after the other. */
    private static void areRefused(String where, Checks.World world, List<Refused> calls) {
        RollerLeaf triedByAll = world.make();
        for (Refused call : calls) {
            if (call.due == OUTSIDE) {
                checks.outside(where + call.what, world, call.deed);
            } else if (call.due == ARGUMENT) {
                checks.badArgument(where + call.what, world, call.deed);
            } else {
                checks.badState(where + call.what, world, call.deed);
            }
            tryIt(triedByAll, call.deed);
        }
        checks.that(where + "all of them change nothing", State.of(triedByAll).equals(State.of(world.make())));
    }

    private static void tryIt(RollerLeaf works, Checks.Deed deed) {
        try {
            deed.on(works);
        } catch (RuntimeException e) {
            // What it throws, if it does, has been checked on an object of its own.
        }
    }

    /** 2 patterns, 3 rollers, 3 lots; a hung room, a bare one, one without a wall, one that was stripped. */
    private static RollerLeaf busy() {
        RollerLeaf works = Samples.painted(2, 2, RollerLeaf.TURN);
        works.pattern(3, 1, RollerLeaf.MIRROR);
        works.paint(1, 2, 0, 6);
        works.roller(0, 12);
        works.roller(1, 7);
        works.roller(0, 4);
        works.lot(0, 1, 4, 50);
        works.lot(1, 2, 1, 30);
        works.lot(2, 3, 9, 40);
        Samples.withWalls(works, 0, 3, 18, 1, 10).hang(0, 0);
        Samples.withWalls(works, 3, 2, 15).hang(3, 1);
        works.strip(3);
        works.wall(3, 1, 50);
        works.wall(3, 1, 51);
        return Samples.withWalls(works, 1, 2, 30, 5, 25);
    }

    /** 6 patterns, 8 rollers, 10 lots, 4 walls in a bare room and in a hung one, whose first has 24 drops. */
    private static RollerLeaf full() {
        RollerLeaf works = Samples.painted(2, 2, RollerLeaf.TURN);
        for (int pattern = 1; pattern < 6; pattern++) {
            works.pattern(1, 1, pattern);
        }
        for (int roller = 0; roller < 8; roller++) {
            works.roller(roller % 6, 60 - 4 * roller);
        }
        for (int lot = 0; lot < 10; lot++) {
            works.lot(lot % 8, lot, 2 * lot + 1, 20 * lot + 20);
        }
        Samples.withWalls(works, 0, 1, 2, 3, 4, 5, 6, 7, 8);
        Samples.withWalls(works, 1, 12, 1, 1, 3, 1, 2, 1, 4).hang(1, 9);
        works.lengthen(1, 0, 12);
        return works;
    }
}
