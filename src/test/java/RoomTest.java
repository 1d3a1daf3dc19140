import java.lang.reflect.Array;
import java.lang.reflect.Field;
import java.lang.reflect.Modifier;
import java.nio.file.Files;
import java.nio.file.Path;
import java.util.IdentityHashMap;
import java.util.Map;

/** All calls of one run live in one room: an object is small, and nothing is made behind its constructor. */
public final class RoomTest {
    private final Map<Object, Boolean> seen = new IdentityHashMap<>();
    private int elements = 0;

    public static void main(String[] args) throws Exception {
        RoomTest room = new RoomTest();
        room.count(new GooseIce());
        System.out.println(room.seen.size() + " objects and arrays, " + room.elements + " fields and elements");
        Check.due("an object has more than 300 objects", room.seen.size() > 300, false);
        Check.due("an object has more than 10,000 elements", room.elements > 10000, false);
        for (String line : Files.readAllLines(Path.of("src/main/java/GooseIce.java"))) {
            String code = line.replaceAll("//.*|/\\*.*", "").trim();
            boolean ofConstructor = code.matches("private final .* = new .*;|(marks|levels)\\[k\\] = new Lake\\(\\);");
            boolean makes = code.matches(".*\\b(new|clone|copyOf|copyOfRange|toString|substring)\\b.*");
            Check.due("made by a call: " + code, makes && !ofConstructor, false);
        }
        Check.end();
    }

    private void count(Object o) throws Exception {
        if (o == null || seen.put(o, true) != null) {
            return;
        }
        if (o.getClass().isArray()) {
            elements += Array.getLength(o);
            for (int k = 0; k < Array.getLength(o) && !o.getClass().getComponentType().isPrimitive(); k++) {
                count(Array.get(o, k));
            }
            return;
        }
        for (Field f : o.getClass().getDeclaredFields()) {
            if (!Modifier.isStatic(f.getModifiers())) {
                elements++;
                f.setAccessible(true);
                if (!f.getType().isPrimitive()) {
                    count(f.get(o));
                }
            }
        }
    }
}
