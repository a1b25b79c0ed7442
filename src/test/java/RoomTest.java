import java.lang.reflect.Array;
import java.lang.reflect.Field;
import java.lang.reflect.Modifier;
import java.util.ArrayDeque;
import java.util.ArrayList;
import java.util.Collections;
import java.util.IdentityHashMap;
import java.util.List;
import java.util.Set;

/** The 512 calls that an object is made for, and the room in which all that they make has to live. */
public final class RoomTest {
    private static final int MOST_CALLS = 512;
    private static final int MOST_OBJECTS = 600000;
    private static final int MOST_ELEMENTS = 7300000;

    private final Set<Object> objects = Collections.newSetFromMap(new IdentityHashMap<>());
    private final ArrayDeque<Object> unseen = new ArrayDeque<>();
    private long elements;

    public static void main(String[] args) throws Exception {
        Script.run("What it is: the last of the 512 calls answers as the others", """
            addEnvelope(-1, 0) = 0 receive(1000000) = 1000000 addItem(1, 0, 7, 1) = 0
            """ + "advance(60) = 0 undo() = 3 ".repeat(254) + "total(0) = 1000000");
        Checks.at("the room");
        EnvelopePlanner planner = new EnvelopePlanner();
        RoomTest made = new RoomTest(planner);
        useFully(planner);
        RoomTest used = new RoomTest(planner);
        Checks.eq("the objects that the calls keep", used.objects.size(), made.objects.size());
        Checks.eq("the elements that the calls keep", used.elements, made.elements);
        // each call may make an exception, which is an object with some fields
        Checks.eq("too many objects", used.objects.size() + MOST_CALLS > MOST_OBJECTS ? 1 : 0, 0);
        Checks.eq("too many elements", used.elements + 10 * MOST_CALLS > MOST_ELEMENTS ? 1 : 0, 0);
        Checks.eq("the rows were found", made.objects.size() > 100 && made.elements > 5000 ? 1 : 0, 1);
        Checks.finish();
    }

    private RoomTest(Object planner) throws IllegalAccessException {
        unseen.push(planner);
        while (!unseen.isEmpty()) {
            Object next = unseen.pop();
            if (!objects.add(next)) {
                continue;
            }
            for (Object part : next.getClass().isArray() ? elementsOf(next) : fieldsOf(next)) {
                elements++;
                if (part != null && !(part instanceof Number || part instanceof Boolean || part instanceof Character)) {
                    unseen.push(part);
                }
            }
        }
    }

    /** All branches, steps and the input, so that whatever a call might keep is kept. */
    private static void useFully(EnvelopePlanner planner) {
        for (int n = 0; n < 10; n++) {
            planner.addEnvelope(-1, 0);
        }
        for (int branch = 1; branch < 6; branch++) {
            planner.fork();
            planner.select(branch);
            for (int n = 0; n < 50; n++) {
                planner.receive(1000000);
            }
        }
        planner.select(0);
        planner.save();
        planner.restore();
        Checks.feed(planner, "n;".repeat(30));
        planner.readPlan();
        for (int n = 0; n < 60; n++) {
            planner.feed('n');
        }
        planner.forecast(200, 0);
        planner.spare(0, 60);
    }

    private static List<Object> elementsOf(Object array) {
        List<Object> found = new ArrayList<>();
        for (int n = 0; n < Array.getLength(array); n++) {
            found.add(Array.get(array, n));
        }
        return found;
    }

    private static List<Object> fieldsOf(Object object) throws IllegalAccessException {
        List<Object> found = new ArrayList<>();
        for (Field field : object.getClass().getDeclaredFields()) {
            if (!Modifier.isStatic(field.getModifiers())) {
                field.setAccessible(true);
                found.add(field.get(object));
            }
        }
        return found;
    }
}
