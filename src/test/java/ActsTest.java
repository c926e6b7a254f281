/** Promises 33 and 34: ACTS and THE TRACE, worked out by hand from the bodies of the document. */
public final class ActsTest {
  private static final Due due = new Due("ActsTest");
  private static final int LEAST = Integer.MIN_VALUE;
  private static final int GREATEST = Integer.MAX_VALUE;

  public static void main(String[] args) {
    promise33();
    promise33Wraps();
    promise33Refused();
    promise34();
    promise34Stays();
    due.end();
  }

  /** PASS k is of KIND k, with the first DAY 3 and the NUMBER 5. */
  private static GamesOffice kinds() {
    GamesOffice x = new GamesOffice();
    for (int i = 0; i < 6; i++) x.person(0);
    for (int kind = 0; kind < 6; kind++) x.pass(0, kind, 319, 5);
    return x;
  }

  private static void act(GamesOffice x, int pass, int act, int n, int want, int... bodies) {
    String call = "act(" + pass + ", " + act + ", " + n + ")";
    due.done(call, x, x.act(pass, act, n), want);
    due.asked("count(12) behind " + call, x, () -> x.count(12), bodies.length);
    for (int i = 0; i < bodies.length; i++) {
      int place = i;
      due.asked("trace(" + i + ") behind " + call, x, () -> x.trace(place), bodies[i]);
    }
    due.asked("trace behind the last body of " + call, x, () -> x.trace(bodies.length), -1);
  }

  private static void promise33() {
    GamesOffice x = kinds();
    // n is the pass, d is 3, t is 5; x is 10
    act(x, 0, 0, 10, 13, 10);
    act(x, 0, 1, 10, 26, 11, 10);
    act(x, 0, 2, 10, 10, 12);
    act(x, 0, 3, 10, 26 ^ 10, 13, 11, 10, 12);
    act(x, 1, 0, 10, 18, 20, 10);
    act(x, 1, 1, 10, 36, 11, 20, 10);
    act(x, 1, 2, 10, 9, 12);
    act(x, 1, 3, 10, (36 ^ 9) - 1, 21, 13, 11, 20, 10, 12);
    act(x, 2, 0, 10, 13, 10);
    act(x, 2, 1, 10, 26, 11, 10);
    act(x, 2, 2, 10, 24, 30, 12);
    act(x, 2, 3, 10, 26 ^ 24, 13, 11, 10, 30, 12);
    act(x, 3, 0, 10, 13, 10);
    act(x, 3, 1, 10, 26 + 0, 40, 11, 10, 41, 12);
    act(x, 3, 2, 10, 10, 41, 12);
    act(x, 3, 3, 10, 26 ^ 10, 13, 40, 11, 10, 41, 12, 41, 12);
    act(x, 4, 0, 10, 13 ^ 5, 50, 10);
    // open 13 ^ 5 is 8, twice 16; count(0) is 3 - 4; open(1) is 4 ^ 5
    act(x, 4, 1, 10, 16 - 1 - 1, 51, 40, 11, 50, 10, 41, 12, 50, 10);
    act(x, 4, 2, 10, 9, 41, 12);
    act(x, 4, 3, 10, 14 ^ 9, 13, 51, 40, 11, 50, 10, 41, 12, 50, 10, 41, 12);
    // open(10): 10 - 5 + 3 + 5
    act(x, 5, 0, 10, 13, 61, 20, 10);
    act(x, 5, 1, 10, 26, 11, 61, 20, 10);
    act(x, 5, 2, 10, 5, 12);
    // tell(15): end 36, count 10
    act(x, 5, 3, 10, (36 ^ 10) - 1, 60, 21, 13, 11, 61, 20, 10, 12);
  }

  private static void promise33Wraps() {
    GamesOffice x = kinds();
    act(x, 0, 0, GREATEST, LEAST + 2, 10);
    act(x, 0, 1, GREATEST, 4, 11, 10);
    act(x, 5, 2, LEAST, GREATEST - 4, 12);
    act(x, 2, 2, GREATEST, GREATEST - 8, 30, 12);
    act(x, 0, 0, -4, -1, 10);
  }

  private static void promise33Refused() {
    GamesOffice x = kinds();
    due.is("count(12) ahead of all", x.count(12), 0);
    int[][] wrong = {{-1, 0}, {6, 0}, {0, -1}, {0, 4}, {LEAST, 0}, {GREATEST, 0}, {0, GREATEST}, {0, LEAST}};
    for (int[] a : wrong) due.refused("act(" + a[0] + ", " + a[1] + ", 0)", x, x.act(a[0], a[1], 0), 1);
    due.is("count(12) behind refused ones", x.count(12), 0);
    act(x, 1, 0, 1, 9, 20, 10);
    due.refused("act(6, 0, 0)", x, x.act(6, 0, 0), 1);
    due.is("trace(0) behind a refused one", x.trace(0), 20);
    due.is("trace(1) behind a refused one", x.trace(1), 10);
    // a pass that is lost, or not of that day, acts as well
    x.lose(1, 0);
    act(x, 1, 0, 1, 9, 20, 10);
  }

  private static void promise34() {
    GamesOffice x = kinds();
    due.asked("trace(0) ahead of all", x, () -> x.trace(0), -1);
    x.act(4, 3, 1);
    due.asked("trace(11)", x, () -> x.trace(11), 12);
    for (int i : new int[] {-1, 12, 49, 50, LEAST, GREATEST}) due.asked("trace(" + i + ")", x, () -> x.trace(i), -1);
    // the latest act alone
    x.act(0, 0, 1);
    due.asked("trace(0)", x, () -> x.trace(0), 10);
    due.asked("trace(1)", x, () -> x.trace(1), -1);
  }

  private static void promise34Stays() {
    GamesOffice x = kinds();
    x.act(5, 0, 1);
    x.clock(10);
    x.image();
    x.act(3, 2, 1);
    x.back();
    x.forge(0, 0, 0);
    due.asked("trace(0)", x, () -> x.trace(0), 41);
    due.asked("trace(1)", x, () -> x.trace(1), 12);
    due.asked("trace(2)", x, () -> x.trace(2), -1);
  }
}
