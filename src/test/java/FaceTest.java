import java.lang.reflect.Constructor;
import java.lang.reflect.Field;
import java.lang.reflect.Method;
import java.lang.reflect.Modifier;
import java.util.Arrays;
import java.util.Set;
import java.util.TreeSet;

/** The public face: the document's members with its throws clauses, and no other that can be reached. */
public final class FaceTest {
    private static final String[] FACE = {
        "NONE=-1", "SHIFT=0", "TURN=1", "MIRROR=2", "GLIDE=3", "BOTH=4", "QUARTER=5",
        "RollerLeaf()",
        "pattern(int,int,int) IllegalArgumentException,IllegalStateException",
        "paint(int,int,int,int) IndexOutOfBoundsException,IllegalArgumentException",
        "colour(int,int,int) IndexOutOfBoundsException",
        "repeat(int,boolean) IndexOutOfBoundsException",
        "repeatAnew(int,boolean) IndexOutOfBoundsException",
        "roller(int,int) IndexOutOfBoundsException,IllegalArgumentException,IllegalStateException",
        "lot(int,int,int,int) IndexOutOfBoundsException,IllegalArgumentException,IllegalStateException",
        "lotOf(int,int) IndexOutOfBoundsException,IllegalArgumentException",
        "wall(int,int,int) IndexOutOfBoundsException,IllegalArgumentException,IllegalStateException",
        "hang(int,int) IndexOutOfBoundsException,IllegalStateException",
        "lengthen(int,int,int) IndexOutOfBoundsException,IllegalArgumentException,IllegalStateException",
        "strip(int) IndexOutOfBoundsException,IllegalStateException",
        "room(int,int) IndexOutOfBoundsException,IllegalArgumentException",
        "cut(int,int,int) IndexOutOfBoundsException",
        "seen(int,int,int,int) IndexOutOfBoundsException",
        "lost()",
    };

    private static final Set<String> FACE_NAMES = new TreeSet<>(Arrays.asList(
        "pattern", "paint", "colour", "repeat", "repeatAnew", "roller", "lot", "lotOf",
        "wall", "hang", "lengthen", "strip", "room", "cut", "seen", "lost"));

    public static void main(String[] args) throws IllegalAccessException {
        Checks checks = new Checks("FaceTest");
        int kind = RollerLeaf.class.getModifiers();
        checks.that("the class is public", Modifier.isPublic(kind));
        checks.that("the class is final", Modifier.isFinal(kind));
        Set<String> due = new TreeSet<>(Arrays.asList(FACE));
        Set<String> found = reachableMembers();
        for (String member : due) {
            checks.that("the face has " + member, found.contains(member));
        }
        for (String member : found) {
            checks.that("the document has " + member, due.contains(member));
        }
        for (Method method : RollerLeaf.class.getDeclaredMethods()) {
            boolean sharesName = Modifier.isPrivate(method.getModifiers()) && FACE_NAMES.contains(method.getName());
            checks.that("the private " + method.getName() + " has a name of its own", !sharesName);
        }
        checks.finish();
    }

    private static Set<String> reachableMembers() throws IllegalAccessException {
        Set<String> members = new TreeSet<>();
        for (Field field : RollerLeaf.class.getDeclaredFields()) {
            if (!Modifier.isPrivate(field.getModifiers())) {
                boolean constant = Modifier.isStatic(field.getModifiers()) && Modifier.isFinal(field.getModifiers());
                members.add(field.getName() + "=" + (constant ? field.get(null) : "no constant"));
            }
        }
        for (Constructor<?> made : RollerLeaf.class.getDeclaredConstructors()) {
            if (!Modifier.isPrivate(made.getModifiers())) {
                members.add("RollerLeaf" + call(made.getParameterTypes(), made.getExceptionTypes()));
            }
        }
        for (Method method : RollerLeaf.class.getDeclaredMethods()) {
            if (!Modifier.isPrivate(method.getModifiers())) {
                boolean asTold = Modifier.isPublic(method.getModifiers())
                    && !Modifier.isStatic(method.getModifiers()) && method.getReturnType() == int.class;
                members.add((asTold ? "" : "otherwise: ") + method.getName()
                    + call(method.getParameterTypes(), method.getExceptionTypes()));
            }
        }
        return members;
    }

    private static String call(Class<?>[] parameters, Class<?>[] exceptions) {
        return ("(" + names(parameters) + ") " + names(exceptions)).trim();
    }

    private static String names(Class<?>[] classes) {
        StringBuilder joined = new StringBuilder();
        for (Class<?> each : classes) {
            joined.append(joined.length() == 0 ? "" : ",").append(each.getSimpleName());
        }
        return joined.toString();
    }
}
