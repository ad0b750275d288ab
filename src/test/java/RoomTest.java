import java.lang.reflect.Array;
import java.lang.reflect.Field;
import java.lang.reflect.Modifier;
import java.util.ArrayDeque;
import java.util.Collections;
import java.util.Deque;
import java.util.IdentityHashMap;
import java.util.Set;

/** "keep it small": an object of the class is some 85 objects and arrays with some 1,900 cells. */
final class RoomTest {
    private static final int MOST_OBJECTS = 100;
    private static final int MOST_CELLS = 2000;

    private final Set<Object> seen = Collections.newSetFromMap(new IdentityHashMap<>());
    private final Deque<Object> left = new ArrayDeque<>();
    private int cells = 0;

    private RoomTest() {
    }

    public static void main(String[] args) throws Exception {
        Check check = new Check("RoomTest");
        for (int s = 0; s < Stories.ALL.length; s++) {
            CarriedNumbers x = new CarriedNumbers();
            RoomTest before = of(x);
            Stories.ALL[s].tell(new Counted(x));
            RoomTest after = of(x);
            String what = "room when " + Stories.NAMES[s];
            check.same(what + ", objects", 1, after.seen.size() <= MOST_OBJECTS ? 1 : 0);
            check.same(what + ", many", 1, after.seen.size() > 10 && after.cells > 500 ? 1 : 0);
            check.same(what + ", cells", 1, after.cells <= MOST_CELLS ? 1 : 0);
            check.same(what + ", objects as before", before.seen.size(), after.seen.size());
            check.same(what + ", cells as before", before.cells, after.cells);
        }
        check.end();
    }

    private static RoomTest of(Object object) throws Exception {
        RoomTest room = new RoomTest();
        room.add(object);
        while (!room.left.isEmpty()) {
            room.count(room.left.pop());
        }
        return room;
    }

    private void add(Object object) {
        if (object != null && seen.add(object)) {
            left.push(object);
        }
    }

    private void count(Object object) throws Exception {
        if (object.getClass().isArray()) {
            cells += Array.getLength(object);
            return;
        }
        for (Field f : object.getClass().getDeclaredFields()) {
            if (!Modifier.isStatic(f.getModifiers())) {
                cells++;
                f.setAccessible(true);
                if (!f.getType().isPrimitive()) {
                    add(f.get(object));
                }
            }
        }
    }
}
