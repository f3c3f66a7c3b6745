/** What the document says of an object as a whole, and promise 1: a new object. */
public final class ObjectTest {
    private static final Checks checks = new Checks("ObjectTest");

    public static void main(String[] args) {
        all512Calls();
        newObject();
        objectsApart();
        checks.finish();
    }

    private static void all512Calls() {
        checks.sentence("What it is",
            "An object is used for at most 512 calls after it has been made; what later calls answer is free.");
        RollerLeaf works = new RollerLeaf();
        works.pattern(1, 1, RollerLeaf.SHIFT);
        works.roller(0, 60);
        for (int lot : Samples.range(0, 9)) {
            works.lot(0, lot, 20, 200);
        }
        works.wall(0, 12, 60);
        int calls = 13;
        // A room of 12 drops of 60 rows opens 4 rolls of 200, so that a lot hangs it 5 times.
        for (int hanging : Samples.range(0, 49)) {
            checks.equal("hang for the time " + hanging, 4, () -> works.hang(0, hanging / 5));
            checks.equal("strip for the time " + hanging, 4, () -> works.strip(0));
            calls += 2;
        }
        while (calls < 511) {
            works.paint(0, 0, 0, calls % 8);
            calls++;
        }
        checks.equal("the 512th call: all rows of all lots are lost", 10 * 20 * 200, works::lost);
    }

    private static void newObject() {
        checks.sentence("Promise 1: A new object",
            "`RollerLeaf()`: No patterns, rollers and lots; rooms without walls.");
        Checks.World world = RollerLeaf::new;
        for (int number : Samples.range(0, 10)) {
            checks.outside("no pattern " + number, world, works -> works.repeat(number, false));
            checks.outside("no pattern to paint " + number, world, works -> works.paint(number, 0, 0, 0));
            checks.outside("no pattern for a roller " + number, world, works -> works.roller(number, 60));
            checks.outside("no roller " + number, world, works -> works.lot(number, 0, 1, 1));
            checks.outside("no lot " + number, world, works -> works.lotOf(number, 0));
            checks.outside("no lot to hang " + number, world, works -> works.hang(0, number));
        }
        for (int room : Samples.range(0, 3)) {
            checks.answers("room " + room + ", its number", new RollerLeaf(), (works, what) -> works.room(room, what),
                0, 0, -1, -1, -1, -1);
            checks.outside("no wall 0 in room " + room, world, works -> works.cut(room, 0, 0));
            checks.badState("room " + room + " is bare", world, works -> works.strip(room));
        }
        checks.equal("nothing is lost", 0, () -> new RollerLeaf().lost());
    }

    private static void objectsApart() {
        RollerLeaf used = Samples.hung(Samples.withLot(4, 5, 40), 3, 40);
        used.strip(0);
        checks.outside("another object's pattern is none of this one", RollerLeaf::new, works -> works.colour(0, 0, 0));
        checks.equal("another object's lost rolls are none of this one", 0, () -> new RollerLeaf().lost());
        checks.equal("the other object's lost rolls", 120, used::lost);
    }
}
