import java.io.IOException;
import java.nio.file.Files;
import java.nio.file.Path;
import java.util.Set;
import java.util.TreeSet;
import java.util.regex.Matcher;
import java.util.regex.Pattern;
import java.util.stream.Collectors;
import java.util.stream.Stream;

/** What README.md says of the use of the class and of the tests is so. */
public final class ReadmeTest {
    private static final Path README = Path.of("README.md");
    private static final Path TESTS = Path.of("src/test/java");

    private static final Checks checks = new Checks("ReadmeTest");

    public static void main(String[] args) throws IOException {
        String readme = Files.readString(README);
        exampleStandsHere(readme);
        example();
        namesAllTests(readme);
        checks.finish();
    }

    /** So that what is run below is what the reader of README.md sees. */
    private static void exampleStandsHere(String readme) throws IOException {
        Matcher block = Pattern.compile("(?s)```java\n(.*?)```").matcher(readme);
        boolean found = block.find();
        checks.that("README.md has an example", found);
        String here = stripped(Files.readString(TESTS.resolve("ReadmeTest.java")));
        checks.that("its lines are those that are run here", found && here.contains(stripped(block.group(1))));
    }

    private static String stripped(String lines) {
        return lines.lines().map(String::strip).collect(Collectors.joining("\n"));
    }

    private static void example() {
        RollerLeaf works = new RollerLeaf();
        int pattern = works.pattern(2, 3, RollerLeaf.TURN);   // a motif of 2 columns and 3 rows
        works.paint(pattern, 0, 0, 5);
        int roller = works.roller(pattern, 12);               // a round of 12 rows holds the repeat of 6
        int lot = works.lot(roller, 1, 4, 50);                // dye 1, 4 rolls of 50 rows
        works.wall(0, 5, 18);                                 // room 0: a wall of 5 drops, 18 rows high
        int opened = works.hang(0, lot);                      // how many rolls it takes: 3
        int cut = works.cut(0, 0, 2);                         // 1000: roll 1, row 0
        works.lengthen(0, 0, 1);                              // one drop more
        works.strip(0);                                       // its rolls are lost
        checks.equal("a repeat of 6", 6, () -> works.repeat(pattern, true));
        checks.equal("the cell is painted", 5, () -> works.colour(pattern, 0, 0));
        checks.answers("the lot, its number", works, (w, what) -> w.lotOf(lot, what), roller, 1, 1, 50, 5);
        checks.equal("it takes 3 rolls", 3, () -> opened);
        checks.equal("roll 1, row 0", 1000, () -> cut);
        checks.answers("the room, its number", works, (w, what) -> w.room(0, what), 1, 6, -1, -1, -1, -1);
        checks.equal("its rolls are lost", 150, works::lost);
    }

    private static void namesAllTests(String readme) throws IOException {
        Set<String> named = new TreeSet<>();
        Matcher each = Pattern.compile("- `(\\w+Test)`:").matcher(readme);
        while (each.find()) {
            named.add(each.group(1));
        }
        try (Stream<Path> files = Files.list(TESTS)) {
            Set<String> there = files.map(file -> file.getFileName().toString())
                .filter(name -> name.endsWith("Test.java"))
                .map(name -> name.replace(".java", ""))
                .collect(Collectors.toCollection(TreeSet::new));
            checks.that("README.md names " + named + ", there are " + there, named.equals(there));
        }
    }
}
