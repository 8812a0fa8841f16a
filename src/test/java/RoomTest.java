import java.lang.reflect.Array;
import java.lang.reflect.Field;
import java.lang.reflect.Modifier;
import java.nio.file.Files;
import java.nio.file.Path;
import java.util.IdentityHashMap;
import java.util.Map;
import java.util.regex.Matcher;
import java.util.regex.Pattern;

/** All calls of one run share one room, so an object is small, and takes no more room by being used. */
public final class RoomTest {
    private static final int MOST_OBJECTS = 100;
    private static final int MOST_ELEMENTS = 5000;
    private static final Checks checks = new Checks("room");

    private final Map<Object, Boolean> objects = new IdentityHashMap<>();
    private int elements = 0;

    public static void main(String[] args) throws Exception {
        anObjectIsSmall();
        useTakesNoMore();
        nothingIsMadeInCalls(Files.readString(Path.of("src/main/java/HeedClock.java")));
        checks.end();
    }

    private static RoomTest measured(HeedClock clock) throws Exception {
        RoomTest room = new RoomTest();
        room.measure(clock);
        return room;
    }

    private void measure(Object object) throws Exception {
        if (object == null || objects.put(object, true) != null) {
            return;
        }
        if (object.getClass().isArray()) {
            elements += Array.getLength(object);
            checks.holds("arrays of numbers alone", object.getClass().getComponentType().isPrimitive());
            return;
        }
        for (Field field : object.getClass().getDeclaredFields()) {
            if (!Modifier.isStatic(field.getModifiers())) {
                elements++;
                field.setAccessible(true);
                measure(field.getType().isPrimitive() ? null : field.get(object));
            }
        }
    }

    private static void anObjectIsSmall() throws Exception {
        RoomTest room = measured(new HeedClock());
        checks.holds("few objects: " + room.objects.size(), room.objects.size() <= MOST_OBJECTS);
        checks.holds("few elements: " + room.elements, room.elements <= MOST_ELEMENTS);
    }

    private static void useTakesNoMore() throws Exception {
        HeedClock clock = new HeedClock();
        RoomTest before = measured(clock);
        Houses.read(clock, Houses.ALL_SORTS);
        for (int i = 0; i < 40; i++) {
            clock.row(i % 8, i % 3, 40);
            clock.quarters(20);
            clock.go(i % 6, i % 4);
            clock.hush(i % 6, i / 6 % 2);
            clock.image(i % 2);
            clock.who(0, 0, 16, 0);
            clock.ask(i % 6, 0);
        }
        RoomTest after = measured(clock);
        checks.due("the same elements", after.elements, before.elements);
        checks.holds("the same objects", after.objects.keySet().equals(before.objects.keySet()));
    }

    /** A call could also make what it forgets again: so 'new' stands in fields alone. */
    private static void nothingIsMadeInCalls(String text) {
        String code = text.replaceAll("(?s)/\\*.*?\\*/", "").replaceAll("//[^\n]*", "");
        Pattern field = Pattern.compile("^ +(private )?final [A-Za-z]+(\\[\\])? \\w+ = new [^;]*;$");
        Matcher lines = Pattern.compile("(?m)^.*\\bnew\\b.*$").matcher(code);
        int made = 0;
        while (lines.find()) {
            made++;
            checks.holds("a field: " + lines.group(), field.matcher(lines.group()).matches());
        }
        checks.holds("fields were found", made > 0);
        Pattern copies = Pattern.compile("\\b(clone|copyOf|copyOfRange|toCharArray|values)\\b");
        checks.holds("no copy of an array", !copies.matcher(code).find());
    }
}
