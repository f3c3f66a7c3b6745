import java.lang.reflect.Constructor;
import java.lang.reflect.Field;
import java.lang.reflect.Method;
import java.lang.reflect.Modifier;
import java.util.Arrays;
import java.util.Set;
import java.util.TreeSet;

/** The public face: the document's members with its throws clauses, and no other that can be reached. */
public final class FaceTest {
    private static final String INDEX = "IndexOutOfBoundsException";
    private static final String ARGUMENT = "IllegalArgumentException";
    private static final String STATE = "IllegalStateException";
    // As the document has them, line by line.
    private static final String[] METHODS = {
        "public int pattern(int columns, int rows, int symmetry) throws " + ARGUMENT + ", " + STATE + ";",
        "public int paint(int pattern, int x, int y, int colour) throws " + INDEX + ", " + ARGUMENT + ";",
        "public int colour(int pattern, int x, int y) throws " + INDEX + ";",
        "public int repeat(int pattern, boolean rows) throws " + INDEX + ";",
        "public int repeatAnew(int pattern, boolean rows) throws " + INDEX + ";",
        "public int roller(int pattern, int round) throws " + INDEX + ", " + ARGUMENT + ", " + STATE + ";",
        "public int lot(int roller, int dye, int rolls, int length) throws " + INDEX + ", " + ARGUMENT + ", " + STATE + ";",
        "public int lotOf(int lot, int what) throws " + INDEX + ", " + ARGUMENT + ";",
        "public int wall(int room, int drops, int height) throws " + INDEX + ", " + ARGUMENT + ", " + STATE + ";",
        "public int hang(int room, int lot) throws " + INDEX + ", " + STATE + ";",
        "public int lengthen(int room, int wall, int drops) throws " + INDEX + ", " + ARGUMENT + ", " + STATE + ";",
        "public int strip(int room) throws " + INDEX + ", " + STATE + ";",
        "public int room(int room, int what) throws " + INDEX + ", " + ARGUMENT + ";",
        "public int cut(int room, int wall, int drop) throws " + INDEX + ";",
        "public int seen(int room, int wall, int x, int y) throws " + INDEX + ";",
        "public int lost();",
    };
    private static final String[] CONSTANTS = {"NONE=-1", "SHIFT=0", "TURN=1", "MIRROR=2", "GLIDE=3", "BOTH=4", "QUARTER=5"};

    private static final Checks checks = new Checks("FaceTest");

    public static void main(String[] args) throws IllegalAccessException {
        int kind = RollerLeaf.class.getModifiers();
        checks.sentence("The public face", "public final class RollerLeaf {");
        checks.that("it is public", Modifier.isPublic(kind));
        checks.that("it is final", Modifier.isFinal(kind));
        Set<String> due = new TreeSet<>(Arrays.asList(CONSTANTS));
        due.add("RollerLeaf()");
        Set<String> found = reachableMembers();
        for (String line : METHODS) {
            checks.sentence("The public face", line);
            String member = memberOf(line);
            checks.that("the class has " + member, found.contains(member));
            due.add(member);
        }
        checks.sentence("The public face", "public RollerLeaf();");
        checks.that("the class has it", found.contains("RollerLeaf()"));
        constants(found);
        for (String member : found) {
            checks.that("the document has " + member, due.contains(member));
        }
        classesInside();
        checks.finish();
    }

    private static void constants(Set<String> found) {
        checks.sentence("Rooms", "The constants: `NONE = -1`: There is none.");
        checks.equal("NONE", -1, () -> RollerLeaf.NONE);
        checks.sentence("Rooms", "`SHIFT = 0, TURN = 1, MIRROR = 2, GLIDE = 3, BOTH = 4, QUARTER = 5`: Symmetries.");
        for (String constant : CONSTANTS) {
            checks.that("the class has " + constant, found.contains(constant));
        }
    }

    /** What LANGUAGE.md asks in its rule 1. */
    private static void classesInside() {
        Set<String> names = new TreeSet<>();
        for (Method method : RollerLeaf.class.getMethods()) {
            names.add(method.getName());
        }
        noPrivateNamesake(RollerLeaf.class, names);
        for (Class<?> inside : RollerLeaf.class.getDeclaredClasses()) {
            boolean hidden = !Modifier.isPublic(inside.getModifiers()) && !Modifier.isProtected(inside.getModifiers());
            checks.that(inside.getSimpleName() + " is hidden", hidden);
            checks.that(inside.getSimpleName() + " is static", Modifier.isStatic(inside.getModifiers()));
            noPrivateNamesake(inside, names);
        }
    }

    private static void noPrivateNamesake(Class<?> of, Set<String> names) {
        for (Method method : of.getDeclaredMethods()) {
            boolean namesake = Modifier.isPrivate(method.getModifiers()) && names.contains(method.getName());
            checks.that("the private " + of.getSimpleName() + "." + method.getName() + " has a name of its own", !namesake);
        }
    }

    /** A line of the document without the parameters' names, as reflection tells a member. */
    private static String memberOf(String line) {
        String call = line.replace("public int ", "").replace(";", "").replace(" throws ", " ");
        int open = call.indexOf('(');
        int close = call.indexOf(')');
        String parameters = call.substring(open + 1, close).replaceAll("(int|boolean) \\w+", "$1");
        return (call.substring(0, open + 1) + parameters + call.substring(close)).replace(", ", ",");
    }

    private static Set<String> reachableMembers() throws IllegalAccessException {
        Set<String> members = new TreeSet<>();
        for (Field field : RollerLeaf.class.getDeclaredFields()) {
            if (!Modifier.isPrivate(field.getModifiers())) {
                boolean constant = Modifier.isPublic(field.getModifiers()) && Modifier.isStatic(field.getModifiers())
                    && Modifier.isFinal(field.getModifiers()) && field.getType() == int.class;
                members.add(field.getName() + "=" + (constant ? field.get(null) : "no constant"));
            }
        }
        for (Constructor<?> made : RollerLeaf.class.getDeclaredConstructors()) {
            if (!Modifier.isPrivate(made.getModifiers())) {
                boolean asTold = Modifier.isPublic(made.getModifiers());
                members.add((asTold ? "" : "otherwise: ") + "RollerLeaf"
                    + call(made.getParameterTypes(), made.getExceptionTypes()));
            }
        }
        for (Method method : RollerLeaf.class.getDeclaredMethods()) {
            if (!Modifier.isPrivate(method.getModifiers())) {
                boolean asTold = Modifier.isPublic(method.getModifiers())
                    && !Modifier.isStatic(method.getModifiers()) && method.getReturnType() == int.class;
                members.add((asTold ? "" : "otherwise: ") + method.getName()
                    + call(method.getParameterTypes(), method.getExceptionTypes()));
            }
        }
        return members;
    }

    private static String call(Class<?>[] parameters, Class<?>[] exceptions) {
        return ("(" + names(parameters) + ") " + names(exceptions)).trim();
    }

    private static String names(Class<?>[] classes) {
        StringBuilder joined = new StringBuilder();
        for (Class<?> each : classes) {
            joined.append(joined.length() == 0 ? "" : ",").append(each.getSimpleName());
        }
        return joined.toString();
    }
}
