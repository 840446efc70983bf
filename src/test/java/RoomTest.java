import java.lang.reflect.Array;
import java.lang.reflect.Field;
import java.lang.reflect.Modifier;
import java.util.ArrayDeque;
import java.util.Collections;
import java.util.Deque;
import java.util.IdentityHashMap;
import java.util.Set;

/** A hall keeps little, and a run of 512 calls adds nothing to it but its orders. */
public final class RoomTest {
    private static final int ORDERS = 6;
    private static final int MOST_OBJECTS = 250;
    private static final int MOST_ELEMENTS = 12_000;

    private final Set<Object> seen = Collections.newSetFromMap(new IdentityHashMap<>());
    private final Deque<Object> ahead = new ArrayDeque<>();
    private long elements;

    public static void main(String[] args) throws IllegalAccessException {
        CountedHall hall = new CountedHall();
        RoomTest atFirst = roomOf(hall);
        atFirst.isSmall("a new hall");
        useUp(hall);
        RoomTest atLast = roomOf(hall);
        atLast.isSmall("a hall after its last call");
        Check.same("objects after the last call", atLast.seen.size(), atFirst.seen.size() + ORDERS);
        Check.same("calls left", hall.callsLeft(), 0);
        Check.end();
    }

    /** The rack and all but one of the eight places for sheets are full soon; 84 plans of 36 panes. */
    private static void useUp(Hall hall) {
        for (int i = 0; i < ORDERS; i++) {
            hall.order(1, 1, true, 6);
        }
        for (int i = 0; i < 84; i++) {
            int id = hall.sheet(301, 300);
            hall.flaw(id, 100, 100, 1, 1);
            Check.same("panes of a plan", hall.plan(id), 36);
            hall.score(id);
            hall.broke(id, 1);
            Check.same("an offcut", i < 7 ? hall.use(0) - id : hall.rack(0, 2), 1);
        }
        Check.same("sheets", hall.total(0), 7);
        Check.same("offcuts", hall.total(3), 10);
    }

    private void isSmall(String what) {
        if (seen.size() > MOST_OBJECTS || elements > MOST_ELEMENTS) {
            Check.tell(what + " keeps " + seen.size() + " objects and " + elements + " fields and elements");
        }
    }

    private static RoomTest roomOf(Object from) throws IllegalAccessException {
        RoomTest room = new RoomTest();
        room.meet(from);
        while (!room.ahead.isEmpty()) {
            room.open(room.ahead.pop());
        }
        return room;
    }

    private void meet(Object object) {
        if (object != null && seen.add(object)) {
            ahead.push(object);
        }
    }

    private void open(Object object) throws IllegalAccessException {
        Class<?> kind = object.getClass();
        if (kind.isArray()) {
            openArray(object, kind.getComponentType());
            return;
        }
        for (Field field : kind.getDeclaredFields()) {
            if (!Modifier.isStatic(field.getModifiers())) {
                elements++;
                field.setAccessible(true);
                if (!field.getType().isPrimitive()) {
                    meet(field.get(object));
                }
            }
        }
    }

    private void openArray(Object array, Class<?> of) {
        int length = Array.getLength(array);
        elements += length;
        for (int i = 0; i < length && !of.isPrimitive(); i++) {
            meet(Array.get(array, i));
        }
    }
}
