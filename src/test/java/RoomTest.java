import java.lang.reflect.Array;
import java.lang.reflect.Field;
import java.lang.reflect.Modifier;
import java.util.ArrayDeque;
import java.util.Collections;
import java.util.Deque;
import java.util.IdentityHashMap;
import java.util.Set;

// What one object takes of the room that all calls of a run share: all of it is made by the constructor, and no call
// makes more.
public final class RoomTest {
  private static final int MOST_OBJECTS = 100, MOST_PLACES = 5000;

  private static int objects;
  private static int places;

  public static void main(String[] args) throws IllegalAccessException {
    Due.by("the room of a run: some 600,000 objects and arrays, 7.3 million fields and elements");
    FairTurns x = new FairTurns();
    count(x);
    int objectsAtFirst = objects;
    int placesAtFirst = places;
    Due.holds("objects and arrays: " + objects, objects <= MOST_OBJECTS);
    Due.holds("fields and elements: " + places, places <= MOST_PLACES);
    useAllOf(x);
    count(x);
    Due.is("objects and arrays behind 512 calls", objects, objectsAtFirst);
    Due.is("fields and elements behind 512 calls", places, placesAtFirst);
    Due.close("RoomTest");
  }

  private static void useAllOf(FairTurns x) {
    for (int one = 0; one < 8; one++) x.comes(one % 4);
    Due.feed(x, "d3-4;kp;r2:0");
    Due.is("rules(7)", x.rules(7), 3);
    for (int duty = 0; duty < 24; duty++) x.duty(duty, duty % 2);
    Due.is("fill(-1)", x.fill(-1), 24);
    for (int one = 0; one < 8; one++) for (int duty = 0; duty < 24; duty++) x.dislike(one, duty, (one * 5 + duty * 3) % 10);
    x.turn(24);
    x.eases(0);
    x.spell();
    for (int list = 0; list < 4; list++) {
      x.list(list, 30);
      x.lay(list, 0);
    }
    Due.feed(x, "((!(day=3)))|week<2&who>4");
    x.pick();
    x.image();
    x.undo();
    x.judge();
    x.roster();
    x.close();
  }

  private static void count(Object from) throws IllegalAccessException {
    Set<Object> seen = Collections.newSetFromMap(new IdentityHashMap<>());
    Deque<Object> next = new ArrayDeque<>();
    objects = 0;
    places = 0;
    next.add(from);
    while (!next.isEmpty()) {
      Object one = next.remove();
      if (!seen.add(one)) continue;
      objects++;
      if (one.getClass().isArray()) places += Array.getLength(one);
      else addFieldsOf(one, next);
    }
  }

  private static void addFieldsOf(Object one, Deque<Object> next) throws IllegalAccessException {
    for (Field f : one.getClass().getDeclaredFields()) {
      if (Modifier.isStatic(f.getModifiers())) continue;
      places++;
      f.setAccessible(true);
      if (!f.getType().isPrimitive() && f.get(one) != null) next.add(f.get(one));
    }
  }
}
