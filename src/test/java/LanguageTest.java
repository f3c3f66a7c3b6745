import java.io.IOException;
import java.lang.reflect.Field;
import java.lang.reflect.Method;
import java.lang.reflect.Modifier;
import java.nio.file.Files;
import java.nio.file.Path;
import java.util.ArrayList;
import java.util.Arrays;
import java.util.List;
import java.util.Set;
import java.util.TreeSet;
import java.util.regex.Matcher;
import java.util.regex.Pattern;

/** What can be read off the class's own text of the rules of LANGUAGE.md; FaceTest holds its rule 1. */
public final class LanguageTest {
    private static final Path SOURCE = Path.of("src/main/java/RollerLeaf.java");
    private static final int MOST_LINES_OF_A_METHOD = 60;
    private static final int MOST_PARAMETERS = 7;
    private static final int MOST_CLASSES = 12;
    private static final int MOST_FIELDS = 20;

    private static final Checks checks = new Checks("LanguageTest");

    public static void main(String[] args) throws IOException {
        String source = Files.readString(SOURCE);
        String code = source.replaceAll("(?s)/\\*.*?\\*/", "").replaceAll("//[^\n]*", "");
        String[] forbidden = {
            "\\bpackage\\b", "\\bimport\\b", "\\bjava\\.", "->", "::", "\\bdouble\\b", "\\bfloat\\b",
            "\\btry\\b", "\\bcatch\\b", "\\bfinally\\b", "\\bsynchronized\\b", "\\bassert\\b", "\\bnative\\b",
            "Exact\\b", "\\bSystem\\.(?!arraycopy)", "\\bequals\\(Object", "\\bhashCode\\b", "\\btoString\\b",
            "\"\\s*\\+", "\\+\\s*\"", "\\bstatic\\s*\\{", "\\bprotected\\b", "\\bvar\\b",
        };
        for (String words : forbidden) {
            checks.that("the code has no " + words, !Pattern.compile(words).matcher(code).find());
        }
        checks.that("its signs are 1 to 127", source.chars().allMatch(sign -> sign >= 1 && sign <= 127));
        library(code);
        throwsWrittenTexts(code);
        classes();
        shortMethods(source.split("\n"));
        checks.finish();
    }

    /** Rules 3 and 4: of the library the class needs Math alone, and what it makes are its own objects and rows. */
    private static void library(String code) {
        Matcher used = Pattern.compile("\\b([A-Z]\\w*[a-z]\\w*)\\s*\\.").matcher(code);
        while (used.find()) {
            checks.that(used.group(1) + " is of the list", used.group(1).equals("Math"));
        }
        Set<String> own = new TreeSet<>(List.of("int"));
        for (Class<?> inside : RollerLeaf.class.getDeclaredClasses()) {
            own.add(inside.getSimpleName());
        }
        Matcher made = Pattern.compile("\\bnew\\s+(\\w+)").matcher(code);
        while (made.find()) {
            checks.that("new " + made.group(1), own.contains(made.group(1)) || made.group(1).endsWith("Exception"));
        }
    }

    /** Rule 6. */
    private static void throwsWrittenTexts(String code) {
        String written = "throw new (IllegalStateException|IllegalArgumentException|IndexOutOfBoundsException)\\(\"[^\"]*\"\\);";
        Matcher each = Pattern.compile("\\bthrow\\b[^;]*;").matcher(code);
        while (each.find()) {
            checks.that(each.group(), each.group().matches(written));
        }
    }

    /** Rules 5 and 11. */
    private static void classes() {
        List<Class<?>> all = new ArrayList<>(Arrays.asList(RollerLeaf.class.getDeclaredClasses()));
        all.add(RollerLeaf.class);
        checks.that("some twelve classes", all.size() <= MOST_CLASSES);
        for (Class<?> each : all) {
            int fields = 0;
            for (Field field : each.getDeclaredFields()) {
                boolean ofClass = Modifier.isStatic(field.getModifiers());
                fields += ofClass ? 0 : 1;
                checks.that("static is final: " + field, !ofClass || Modifier.isFinal(field.getModifiers()));
            }
            checks.that("some twenty fields: " + each, fields <= MOST_FIELDS);
            for (Method method : each.getDeclaredMethods()) {
                checks.that("seven parameters: " + method, method.getParameterCount() <= MOST_PARAMETERS);
            }
        }
    }

    /** Rule 11: from a line that opens a block of a method's depth to the one that ends it. */
    private static void shortMethods(String[] lines) {
        int[] openedAt = {-1, -1};
        for (int number = 0; number < lines.length; number++) {
            for (int depth = 0; depth < 2; depth++) {
                String indent = "    ".repeat(depth + 1);
                boolean ends = lines[number].equals(indent + "}");
                boolean begins = lines[number].startsWith(indent) && !lines[number].startsWith(indent + " ")
                    && lines[number].contains("(");
                if (begins) {
                    openedAt[depth] = number;
                } else if (ends && openedAt[depth] >= 0) {
                    int length = number - openedAt[depth] + 1;
                    checks.that("the method at line " + (openedAt[depth] + 1) + " is short", length <= MOST_LINES_OF_A_METHOD);
                    openedAt[depth] = -1;
                }
            }
        }
    }
}
