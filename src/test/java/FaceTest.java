import java.lang.reflect.Field;
import java.lang.reflect.Method;
import java.lang.reflect.Modifier;
import java.nio.file.Files;
import java.nio.file.Path;
import java.util.Arrays;
import java.util.Set;
import java.util.TreeSet;
import java.util.regex.Matcher;
import java.util.regex.Pattern;

/** The public face of the document, no more and no less, and rules of LANGUAGE.md that can be seen in the text. */
public final class FaceTest {
    private static final String METHODS = "row3 set3 copy5 drop1 feed1 house0 fault0 quarters1 go2 hush2 wool1 undo0 "
            + "ear2 clock1 ahead1 whenShows1 done1 late0 latest1 toHush3 toCall3 who4 heed4 older3 odds3 image1 "
            + "restore1 kind1 as2 ask2 trace1 count1 status0";
    private static final Set<String> FORBIDDEN_WORDS = Set.of("throw", "try", "catch", "synchronized", "assert",
            "package", "var", "Object", "Exception", "public static void");
    private static final Set<String> LIBRARY = Set.of("Arrays.fill", "System.arraycopy", "Integer.bitCount",
            "Long.bitCount", "Long.numberOfTrailingZeros", "Math.max");
    private static final int MOST_LINES = 60;
    private static final Checks checks = new Checks("face");

    public static void main(String[] args) throws Exception {
        constants();
        methods();
        classesInside();
        String text = Files.readString(Path.of("src/main/java/HeedClock.java"));
        textKeepsTheRules(text);
        libraryIsAsListed(text);
        methodsAreShort(text);
        checks.end();
    }

    private static void constants() {
        checks.due("NONE", HeedClock.NONE, -1000000);
        checks.due("BAD", HeedClock.BAD, -1000001);
        checks.due("STATE", HeedClock.STATE, -1000002);
        checks.due("FULL", HeedClock.FULL, -1000003);
        Set<String> open = new TreeSet<>();
        for (Field field : HeedClock.class.getDeclaredFields()) {
            if (!Modifier.isPrivate(field.getModifiers())) {
                open.add(field.getName());
            } else if (Modifier.isStatic(field.getModifiers())) {
                checks.holds(field + " is final", Modifier.isFinal(field.getModifiers()));
            }
        }
        checks.holds("open fields " + open, open.equals(Set.of("NONE", "BAD", "STATE", "FULL")));
    }

    private static void methods() {
        Set<String> told = new TreeSet<>(Arrays.asList(METHODS.split(" ")));
        Set<String> open = new TreeSet<>();
        Set<String> openNames = new TreeSet<>();
        for (Method method : HeedClock.class.getDeclaredMethods()) {
            if (!Modifier.isPrivate(method.getModifiers())) {
                open.add(method.getName() + method.getParameterCount());
                openNames.add(method.getName());
                checks.holds(method + " answers an int", method.getReturnType() == int.class);
                checks.holds(method + " is no static one", !Modifier.isStatic(method.getModifiers()));
            }
        }
        checks.holds("open methods " + open, open.equals(told));
        for (Method method : HeedClock.class.getDeclaredMethods()) {
            if (Modifier.isPrivate(method.getModifiers())) {
                checks.holds(method + " has a name of its own", !openNames.contains(method.getName()));
            }
        }
        checks.due("constructors", HeedClock.class.getDeclaredConstructors().length, 1);
        checks.holds("final", Modifier.isFinal(HeedClock.class.getModifiers()));
    }

    private static void classesInside() {
        Class<?>[] classes = HeedClock.class.getDeclaredClasses();
        checks.holds("twelve classes at most", classes.length + 1 <= 12);
        for (Class<?> inside : classes) {
            checks.holds(inside + " is static", Modifier.isStatic(inside.getModifiers()));
            checks.holds(inside + " is not public", !Modifier.isPublic(inside.getModifiers()));
            long fields = Arrays.stream(inside.getDeclaredFields())
                    .filter(field -> !Modifier.isStatic(field.getModifiers())).count();
            checks.holds(inside + " has twenty fields at most", fields <= 20);
            for (Field field : inside.getDeclaredFields()) {
                boolean isStatic = Modifier.isStatic(field.getModifiers());
                checks.holds(field + " is final if static", !isStatic || Modifier.isFinal(field.getModifiers()));
            }
            for (Method method : inside.getDeclaredMethods()) {
                checks.holds(method + " takes seven parameters at most", method.getParameterCount() <= 7);
                checks.holds(method + " has a name of its own", !(" " + METHODS + " ").matches(
                        ".* " + method.getName() + "[0-9] .*"));
            }
        }
    }

    private static void textKeepsTheRules(String text) {
        String code = text.replaceAll("(?s)/\\*.*?\\*/", "").replaceAll("//[^\n]*", "");
        for (String word : FORBIDDEN_WORDS) {
            checks.holds("no " + word, !code.matches("(?s).*\\b" + word + "\\b.*"));
        }
        checks.holds("no lambda", !code.contains("->"));
        checks.holds("no method reference", !code.contains("::"));
        checks.holds("no annotation", !code.contains("@"));
        checks.holds("one import", code.split("\\bimport\\b", -1).length == 2);
        checks.holds("of Arrays", code.contains("import java.util.Arrays;"));
        checks.holds("plain signs", text.chars().allMatch(sign -> sign == '\n' || sign >= ' ' && sign < 127));
    }

    private static void libraryIsAsListed(String text) {
        Matcher calls = Pattern.compile("\\b(Arrays|System|Integer|Long|Math|String|Character)\\.\\w+").matcher(text);
        while (calls.find()) {
            checks.holds(calls.group() + " is listed", LIBRARY.contains(calls.group()));
        }
    }

    /** A method ends at the first brace that stands as far in as its head. */
    private static void methodsAreShort(String text) {
        String head = "^( {4}| {8})(\\w[^\\n;=]*\\([^\\n;=]*\\)) \\{$";
        Matcher methods = Pattern.compile("(?ms)" + head + "(.*?)^\\1\\}$").matcher(text);
        int found = 0;
        while (methods.find()) {
            found++;
            checks.holds(methods.group(2) + " is short", methods.group(3).lines().count() <= MOST_LINES);
        }
        checks.holds("methods were found: " + found, found >= METHODS.split(" ").length);
    }
}
