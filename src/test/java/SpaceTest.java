import java.lang.management.ManagementFactory;
import java.lang.reflect.Array;
import java.lang.reflect.Field;
import java.lang.reflect.Modifier;
import java.util.IdentityHashMap;
import java.util.Map;

/** An object is small when it is new, and its calls make nothing: all calls of one run live in one room. */
public final class SpaceTest {
  private static final int MOST_OBJECTS = 100;
  private static final int MOST_ELEMENTS = 2500;
  // a run makes less than this, that is next to nothing; the machine's own counting may need some
  private static final long MOST_BYTES = 4096;

  private static int elements = 0;

  private static void walk(Object object, Map<Object, Object> seen) throws IllegalAccessException {
    if (object == null || seen.put(object, object) != null) return;
    if (object.getClass().isArray()) {
      elements += Array.getLength(object);
      if (object instanceof Object[]) for (Object part : (Object[]) object) walk(part, seen);
      return;
    }
    for (Field field : object.getClass().getDeclaredFields()) {
      if (Modifier.isStatic(field.getModifiers())) continue;
      elements++;
      field.setAccessible(true);
      if (!field.getType().isPrimitive()) walk(field.get(object), seen);
    }
  }

  /** A run that makes THE PLAN, THE ROOMING and all the rest be worked out again and again; answers a sum. */
  private static int use(GamesOffice x) {
    int sum = 0;
    for (int i = 0; i < 12; i++) sum += x.person(i % 8);
    for (int i = 0; i < 4; i++) sum += x.zone(3 + i) + x.door(-1, i) + x.room(2 + i);
    for (int i = 0; i < 12; i++) sum += x.rule(i != 5, i % 6, i % 4, 19, 1439) + x.pass(i, i % 6, 19, 1);
    for (int i = 0; i < 5; i++) sum += x.unit(i % 3, 20 + i, 3 << i, i > 0 ? 50 + i - 1 : -1, i == 2) + x.group(i % 3, 2, i * 100 + 9);
    x.image();
    // fewer than 512 calls in all
    for (int i = 0; i < 7; i++) {
      sum += x.back() + x.unit(1, 30 + i, 9, -1, false) + x.group(2, 3 + i % 4, 110) + x.seats(1 + i);
      for (int unit = -1; unit < 6; unit++) sum += x.begins(unit) + x.order(unit) + x.planned(0, unit);
      sum += x.fleet() + x.rooming(-1) + x.rooming(3) + x.result(1 + 2 * 13) + x.strip(0, 1) + x.placed(0, 0);
      for (int what = 0; what < 4; what++) sum += x.medals(3, what) + x.act(i, what, i) + x.count(what) + x.trace(what);
      sum += x.go(i, i % 4, i) + x.may(i, 0, i) + x.opens(i, 0, 5, 5) + x.why(i, 0, 5, 5) + x.lose(i, 3) + x.end(i) + x.clock(9);
      sum += x.sheet(i % 4, i % 3, 40) + x.cell(i % 4, 3, i) + x.row(i % 4, i % 3, 0) + x.forge(i % 7, 1, i) + x.status();
      sum += x.personTold(i, 1) + x.zoneTold(0, 1) + x.passTold(i, 5);
    }
    return sum;
  }

  public static void main(String[] args) throws IllegalAccessException {
    Map<Object, Object> seen = new IdentityHashMap<>();
    walk(new GamesOffice(), seen);
    System.out.println("SpaceTest: a new object has " + seen.size() + " objects and arrays, " + elements + " fields and elements");
    boolean isSmall = seen.size() <= MOST_OBJECTS && elements <= MOST_ELEMENTS;

    com.sun.management.ThreadMXBean threads = (com.sun.management.ThreadMXBean) ManagementFactory.getThreadMXBean();
    long thread = Thread.currentThread().getId();
    int sum = use(new GamesOffice());
    threads.getThreadAllocatedBytes(thread);
    GamesOffice x = new GamesOffice();
    long before = threads.getThreadAllocatedBytes(thread);
    sum += use(x);
    long made = threads.getThreadAllocatedBytes(thread) - before;
    System.out.println("SpaceTest: a run makes " + made + " bytes (sum " + sum + ")");
    if (!isSmall || made > MOST_BYTES) {
      System.out.println("SpaceTest: that is too much");
      System.exit(1);
    }
  }
}
