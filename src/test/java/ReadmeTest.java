import java.lang.reflect.Method;
import java.lang.reflect.Modifier;
import java.nio.file.Files;
import java.nio.file.Path;
import java.util.Arrays;
import java.util.Collections;
import java.util.regex.Matcher;
import java.util.regex.Pattern;

/** README.md: each answer told in its example is the one that the class gives, and each call is named. */
public final class ReadmeTest {
    private static final Pattern TEXT = Pattern.compile("String text = \"([^\"]*)\";");
    private static final Pattern TOLD = Pattern.compile("clock\\.(\\w+)\\(([-0-9, ]*)\\); +// (-?[0-9]+|[A-Z]+)");
    private static final int LEAST_LINES = 15;
    private static final Checks checks = new Checks("readme");

    public static void main(String[] args) throws Exception {
        String page = Files.readString(Path.of("README.md"));
        example(page);
        namesEveryCall(page);
        checks.end();
    }

    private static void example(String page) throws Exception {
        HeedClock clock = new HeedClock();
        Matcher text = TEXT.matcher(page);
        checks.holds("the page has a text", text.find());
        Houses.feed(clock, text.group(1));
        Matcher told = TOLD.matcher(page);
        int lines = 0;
        while (told.find()) {
            lines++;
            checks.due(told.group(), answer(clock, told.group(1), told.group(2)), number(told.group(3)));
        }
        checks.holds("the example was found", lines >= LEAST_LINES);
    }

    private static int answer(HeedClock clock, String name, String numbers) throws Exception {
        Object[] given = Arrays.stream(numbers.split(", *")).filter(number -> !number.isEmpty())
                .map(Integer::valueOf).toArray();
        Class<?>[] ints = new Class<?>[given.length];
        Arrays.fill(ints, int.class);
        return (int) HeedClock.class.getMethod(name, ints).invoke(clock, given);
    }

    private static int number(String told) throws Exception {
        if (Character.isLetter(told.charAt(0))) {
            return HeedClock.class.getField(told).getInt(null);
        }
        return Integer.parseInt(told);
    }

    private static void namesEveryCall(String page) {
        for (Method method : HeedClock.class.getDeclaredMethods()) {
            if (Modifier.isPublic(method.getModifiers())) {
                String numbers = String.join(", ", Collections.nCopies(method.getParameterCount(), "\\w+"));
                String call = "`" + method.getName() + "\\(" + numbers + "\\)`";
                checks.holds("the page names " + method.getName(), Pattern.compile(call).matcher(page).find());
            }
        }
    }
}
