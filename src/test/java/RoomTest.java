import java.lang.reflect.Array;
import java.lang.reflect.Field;
import java.lang.reflect.Modifier;
import java.util.ArrayDeque;
import java.util.Collections;
import java.util.Deque;
import java.util.IdentityHashMap;
import java.util.Set;

/**
 * An object takes little of the room: even a run whose every call made one would have place in it. That
 * the other calls make nothing but exceptions is for RulesTest to tell.
 */
public final class RoomTest {
  private static final int CALLS = 512;
  private static final long MOST_OBJECTS = 600000;
  private static final long MOST_ELEMENTS = 7300000;

  private final Set<Object> seen = Collections.newSetFromMap(new IdentityHashMap<>());
  private final Deque<Object> ahead = new ArrayDeque<>();
  private long elements;

  public static void main(String[] args) throws IllegalAccessException {
    RoomTest test = new RoomTest();
    test.add(new SongFields());
    while (!test.ahead.isEmpty()) {
      test.count(test.ahead.poll());
    }
    long objects = test.seen.size();
    Checks.is("all was seen", objects > 100 && test.elements > 10000, true);
    Checks.is(CALLS + " times " + objects + " objects fit", objects * CALLS < MOST_OBJECTS, true);
    Checks.is(CALLS + " times " + test.elements + " elements fit", test.elements * CALLS < MOST_ELEMENTS, true);
    Checks.end("RoomTest");
  }

  private void add(Object object) {
    if (object != null && seen.add(object)) {
      ahead.add(object);
    }
  }

  private void count(Object object) throws IllegalAccessException {
    Class<?> c = object.getClass();
    if (c.isArray()) {
      int length = Array.getLength(object);
      elements += length;
      for (int i = 0; i < length && !c.getComponentType().isPrimitive(); i++) {
        add(Array.get(object, i));
      }
      return;
    }
    for (Field f : c.getDeclaredFields()) {
      if (!Modifier.isStatic(f.getModifiers())) {
        elements++;
        f.setAccessible(true);
        if (!f.getType().isPrimitive()) {
          add(f.get(object));
        }
      }
    }
  }
}
