import java.lang.reflect.InvocationTargetException;
import java.lang.reflect.Method;
import java.lang.reflect.Modifier;
import java.util.Arrays;

/** No call ever throws, whatever its arguments are, on an object that is new, in use or full. */
public final class AnyArgumentsTest {
  private static final int[] VALUES = {Integer.MIN_VALUE, Integer.MIN_VALUE + 1, -1441, -101, -2, -1, 0, 1, 2, 5, 6, 9, 11, 12, 13,
      19, 20, 40, 99, 100, 1439, 1919, 28799, 28800, 371292, 14391439, Integer.MAX_VALUE - 1, Integer.MAX_VALUE};
  private static final int MOST_CALLS = 512;

  private static GamesOffice x;
  private static int calls;

  private static GamesOffice prepared(int state) {
    GamesOffice office = new GamesOffice();
    int persons = state == 2 ? 12 : state * 3;
    for (int i = 0; i < persons; i++) office.person(i % 8);
    for (int i = 0; i < state * 3; i++) office.zone(i + 1);
    for (int i = 0; i < state * 6; i++) office.door(i % 2 == 0 ? -1 : i / 2 % 3, i % 2 == 0 ? i / 2 % 3 : -1);
    for (int i = 0; i < state * 10; i++) office.pass(i % (state * 3), i % 6, 19, 0);
    for (int i = 0; i < state * 6; i++) office.rule(i % 3 > 0, i % 6, i % 3, 19, 1439);
    for (int i = 0; i < state * 3; i++) office.unit(i % 4, 30 + i, i, i % 3 == 1 ? i - 1 + 100 : -1, i % 2 == 0);
    for (int i = 0; i < state * 2; i++) office.room(2 + i);
    for (int i = 0; i < state * 3; i++) office.group(i % 3, 1 + i, i + 5);
    for (int i = 0; i < state * 5; i++) office.result(1 + 2 * 13 + 3 * 169);
    for (int i = 0; i < state * 2; i++) office.sheet(i, i % 3, 10 * i);
    if (state == 2) office.image();
    calls = state == 0 ? 0 : 150;
    return office;
  }

  private static void call(Method method, Object[] arguments, int state) throws IllegalAccessException {
    if (calls + 1 >= MOST_CALLS) x = prepared(state);
    calls++;
    try {
      method.invoke(x, arguments);
    } catch (InvocationTargetException e) {
      System.out.println("AnyArgumentsTest: " + method.getName() + Arrays.toString(arguments) + " threw " + e.getCause());
      System.exit(1);
    }
  }

  /** Every pair of arguments takes every pair of values; the others walk along with them. */
  private static int callAll(Method method, int state) throws IllegalAccessException {
    Class<?>[] types = method.getParameterTypes();
    int many = 0;
    for (int first = 0; first < Math.max(1, types.length); first++) {
      for (int i = 0; i < VALUES.length * VALUES.length; i++) {
        Object[] arguments = new Object[types.length];
        for (int p = 0; p < types.length; p++) {
          int at = p == first ? i / VALUES.length : i % VALUES.length + (p > first ? 0 : 7 * p);
          int value = VALUES[at % VALUES.length];
          arguments[p] = types[p] == boolean.class ? (Object) (value % 2 == 0) : (Object) value;
        }
        call(method, arguments, state);
        many++;
      }
    }
    return many;
  }

  public static void main(String[] args) throws IllegalAccessException {
    int many = 0;
    for (int state = 0; state <= 2; state++) {
      for (Method method : GamesOffice.class.getDeclaredMethods()) {
        if (!Modifier.isPublic(method.getModifiers())) continue;
        x = prepared(state);
        many += callAll(method, state);
      }
    }
    System.out.println("AnyArgumentsTest: " + many + " calls, none threw");
  }
}
