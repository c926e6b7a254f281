/** Promises 11, 12 and 25 to 28: UNITS, THE PLAN, buses and THE FLEET. */
public final class UnitsTest {
  private static final Due due = new Due("UnitsTest");
  private static final int LEAST = Integer.MIN_VALUE;
  private static final int GREATEST = Integer.MAX_VALUE;

  public static void main(String[] args) {
    promise11();
    promise12();
    promise25();
    promise25Halls();
    promise25Rests();
    promise25Light();
    promise25Gaps();
    promise25Changes();
    promise26();
    promise26Best();
    promise27();
    promise27Digits();
    promise28();
    promise28Trips();
    due.end();
  }

  private static GamesOffice withPersons(int many) {
    GamesOffice x = new GamesOffice();
    for (int i = 0; i < many; i++) x.person(0);
    return x;
  }

  private static void begins(GamesOffice x, int unit, int want) {
    due.asked("begins(" + unit + ")", x, () -> x.begins(unit), want);
  }

  private static void order(GamesOffice x, int... want) {
    for (int i = 0; i < want.length; i++) {
      int place = i;
      due.asked("order(" + i + ")", x, () -> x.order(place), want[i]);
    }
  }

  private static void planned(GamesOffice x, int order, int unit, int want) {
    due.asked("planned(" + order + ", " + unit + ")", x, () -> x.planned(order, unit), want);
  }

  private static void fleet(GamesOffice x, int want) {
    due.asked("fleet()", x, () -> x.fleet(), want);
  }

  private static void promise11() {
    GamesOffice x = withPersons(2);
    int[][] wrong = {
        {-1, 1, 0, -1}, {4, 1, 0, -1}, {LEAST, 1, 0, -1},
        {0, 0, 0, -1}, {0, 241, 0, -1}, {0, LEAST, 0, -1},
        {0, 1, -1, -1}, {0, 1, 4, -1}, {0, 1, LEAST, -1}, {0, 1, GREATEST, -1},
        {0, 1, 0, 0}, {0, 1, 0, -2}, {0, 1, 0, 10}, {0, 1, 0, LEAST}, {0, 1, 0, GREATEST}};
    for (int[] u : wrong) {
      due.refused("unit(" + u[0] + ", " + u[1] + ", " + u[2] + ", " + u[3] + ")", x, x.unit(u[0], u[1], u[2], u[3], false), 1);
    }
    due.is("count(6)", x.count(6), 0);
    due.done("unit 0", x, x.unit(0, 1, 0, -1, true), 0);
    due.done("unit 1", x, x.unit(3, 2, 3, 2000, false), 1);
    due.refused("a rest of 201", x, x.unit(0, 1, 0, 2010, false), 1);
    due.refused("behind a unit that is not there", x, x.unit(0, 1, 0, 2, false), 1);
    due.refused("behind unit 9", x, x.unit(0, 1, 0, 1009, false), 1);
    due.done("unit 2", x, x.unit(0, 1, 1, 1, false), 2);
    due.done("unit 3", x, x.unit(0, 1, 2, 0, false), 3);
    due.done("unit 4", x, x.unit(0, 1, 0, 13, false), 4);
    due.done("unit 5", x, x.unit(0, 240, 0, -1, false), 5);
    due.refused("a 7th unit", x, x.unit(0, 1, 0, -1, false), 2);
    due.refused("a wrong unit without room", x, x.unit(4, 1, 0, -1, false), 1);
    due.is("count(6)", x.count(6), 6);
    GamesOffice full = withPersons(12);
    due.refused("a 13th person of a unit", full, full.unit(0, 1, 4096, -1, false), 1);
    due.done("all 12 persons", full, full.unit(0, 1, 4095, -1, false), 0);
    GamesOffice nobody = new GamesOffice();
    due.refused("a person where there is none", nobody, nobody.unit(0, 1, 1, -1, false), 1);
  }

  private static void promise12() {
    GamesOffice x = new GamesOffice();
    for (int n : new int[] {0, 13, -1, LEAST, GREATEST}) due.refused("seats(" + n + ")", x, x.seats(n), 1);
    due.is("count(11)", x.count(11), 4);
    due.done("seats(1)", x, x.seats(1), 4);
    due.done("seats(12)", x, x.seats(12), 1);
    due.refused("seats(13)", x, x.seats(13), 1);
    due.done("seats(12)", x, x.seats(12), 12);
    due.is("count(11)", x.count(11), 12);
  }

  private static void promise25() {
    GamesOffice x = withPersons(1);
    begins(x, -1, 0);
    begins(x, 0, -1);
    x.unit(0, 100, 0, -1, false);
    begins(x, 0, 360);
    begins(x, -1, 460);
    for (int unit : new int[] {1, -2, LEAST, GREATEST}) begins(x, unit, -1);
  }

  private static void promise25Halls() {
    GamesOffice x = withPersons(2);
    x.unit(0, 100, 1, -1, false);
    x.unit(0, 50, 2, -1, false);
    x.unit(1, 70, 0, -1, false);
    // in one hall: in the minute in which another one ends
    begins(x, 0, 360);
    begins(x, 1, 460);
    begins(x, 2, 360);
    begins(x, -1, 510);
    x.unit(1, 40, 1, -1, false);
    // the hall is free from 430 on, the person from 490 on
    planned(x, 0 + 6 + 2 * 36 + 3 * 216, 3, 490);
    planned(x, 3 + 0 * 6 + 36 + 2 * 216, 0, 430);
    planned(x, 3 + 0 * 6 + 36 + 2 * 216, 2, 400);
  }

  private static void promise25Rests() {
    GamesOffice x = withPersons(1);
    x.unit(0, 100, 0, -1, false);
    x.unit(1, 10, 0, 200 * 10, false);
    x.unit(2, 10, 0, 0, false);
    x.unit(0, 10, 0, 5 * 10 + 1, false);
    begins(x, 0, 360);
    begins(x, 1, 660);
    begins(x, 2, 460);
    begins(x, 3, 675);
    begins(x, -1, 685);
    // unit 1 ahead of the unit that it is behind
    planned(x, 1 + 0 * 6 + 2 * 36 + 3 * 216, 1, -1);
    planned(x, 0 + 2 * 6 + 36 + 3 * 216, 2, 460);
  }

  private static void promise25Light() {
    GamesOffice x = new GamesOffice();
    x.unit(0, 240, 0, -1, true);
    x.unit(0, 240, 0, -1, true);
    x.unit(0, 240, 0, -1, true);
    // 360 + 3 * 240 is 1080: a light one of 120 ends at 1200 just so
    x.unit(0, 120, 0, -1, true);
    begins(x, -1, 1200);
    x.unit(0, 240, 0, -1, false);
    begins(x, 4, 1200);
    begins(x, -1, 1440);
    GamesOffice late = new GamesOffice();
    for (int i = 0; i < 3; i++) late.unit(0, 240, 0, -1, true);
    late.unit(0, 121, 0, -1, true);
    begins(late, -1, -1);
    begins(late, 0, -1);
    order(late, -1, -1);
    fleet(late, -1);
    GamesOffice dark = new GamesOffice();
    for (int i = 0; i < 4; i++) dark.unit(0, 240, 0, -1, false);
    dark.unit(0, 120, 0, -1, false);
    begins(dark, -1, 1440);
    dark.unit(0, 1, 0, -1, false);
    begins(dark, -1, -1);
    GamesOffice turned = new GamesOffice();
    for (int i = 0; i < 4; i++) turned.unit(0, 240, 0, -1, false);
    turned.unit(0, 1, 0, -1, true);
    // the one with light must begin at 1199 at the latest: only behind three of the others
    begins(turned, -1, 1321);
    order(turned, 0, 1, 2, 4, 3);
    begins(turned, 4, 1080);
    begins(turned, 3, 1081);
  }

  private static void promise25Gaps() {
    GamesOffice x = withPersons(3);
    x.unit(0, 100, 1, -1, false);
    x.unit(1, 100, 3, -1, false);
    x.unit(2, 29, 2, -1, false);
    x.unit(3, 70, 4, -1, false);
    // 30 minutes on both sides for persons that they share, wherever they are
    planned(x, 0 + 6 + 2 * 36 + 3 * 216, 1, 490);
    planned(x, 0 + 6 + 2 * 36 + 3 * 216, 2, 360);
    planned(x, 0 + 6 + 2 * 36 + 3 * 216, 3, 360);
    planned(x, 2 + 6 + 0 * 36 + 3 * 216, 1, 419);
    planned(x, 2 + 6 + 0 * 36 + 3 * 216, 0, 549);
    // 360 .. 460 and 30 leave 360 .. 460 for unit 2; a gap that is too small by 1 is not taken
    GamesOffice tight = withPersons(2);
    tight.unit(0, 100, 1, -1, false);
    tight.unit(1, 100, 3, -1, false);
    tight.unit(2, 101, 2, -1, false);
    planned(tight, 0 + 6 + 2 * 36, 2, 620);
    GamesOffice fits = withPersons(2);
    fits.unit(0, 100, 1, -1, false);
    fits.unit(1, 100, 3, -1, false);
    fits.unit(2, 100, 2, -1, false);
    planned(fits, 0 + 6 + 2 * 36, 2, 360);
    // one hall and one person: 30 minutes
    GamesOffice both = withPersons(1);
    both.unit(0, 10, 1, -1, false);
    both.unit(0, 10, 1, -1, false);
    begins(both, 1, 400);
    begins(both, -1, 410);
  }

  private static void promise25Changes() {
    GamesOffice x = withPersons(1);
    x.unit(0, 60, 0, -1, false);
    begins(x, -1, 420);
    x.image();
    x.unit(0, 60, 0, -1, false);
    begins(x, -1, 480);
    due.refused("a wrong unit", x, x.unit(0, 0, 0, -1, false), 1);
    begins(x, -1, 480);
    x.back();
    begins(x, -1, 420);
    begins(x, 1, -1);
  }

  private static void promise26() {
    GamesOffice x = withPersons(2);
    order(x, -1);
    x.unit(0, 10, 0, -1, false);
    x.unit(1, 10, 0, -1, false);
    // of like ones the lesser unit first
    order(x, 0, 1, -1);
    for (int i : new int[] {-1, 2, 6, LEAST, GREATEST}) due.asked("order(" + i + ")", x, () -> x.order(i), -1);
  }

  private static void promise26Best() {
    // 1 ahead of 0 lets both halls work: 2 rests behind 1
    GamesOffice x = withPersons(1);
    x.unit(0, 100, 0, -1, false);
    x.unit(0, 50, 0, -1, false);
    x.unit(1, 100, 0, 1, false);
    order(x, 1, 0, 2);
    begins(x, 1, 360);
    begins(x, 0, 410);
    begins(x, 2, 410);
    begins(x, -1, 510);
    planned(x, 0 + 6 + 2 * 36, 2, 510);
    // the same end by 1, 0, 2 and by 1, 2, 0: the lesser at the first place that differs
    planned(x, 1 + 2 * 6 + 0 * 36, 0, 410);
    planned(x, 1 + 2 * 6 + 0 * 36, 2, 410);
  }

  private static void promise27() {
    GamesOffice x = withPersons(1);
    planned(x, 0, 0, -1);
    planned(x, 0, -1, -1);
    x.unit(0, 10, 0, -1, false);
    planned(x, 0, 0, 360);
    for (int order : new int[] {1, 6, 36, -1, LEAST, GREATEST}) planned(x, order, 0, -1);
    for (int unit : new int[] {-1, 1, LEAST, GREATEST}) planned(x, 0, unit, -1);
    x.unit(0, 20, 0, -1, false);
    planned(x, 6, 0, 360);
    planned(x, 6, 1, 370);
    planned(x, 1, 0, 380);
    planned(x, 1, 1, 360);
    for (int order : new int[] {0, 7, 2, 12, 6 + 36, 1 + 36, 1 + 36 * 36}) planned(x, order, 0, -1);
    // a question for another order leaves THE PLAN as it is
    begins(x, 0, 360);
    begins(x, 1, 370);
    order(x, 0, 1);
  }

  private static void promise27Digits() {
    GamesOffice x = withPersons(1);
    for (int i = 0; i < 6; i++) x.unit(0, 10 + i, 0, -1, false);
    int up = 0 + 6 * (1 + 6 * (2 + 6 * (3 + 6 * (4 + 6 * 5))));
    int down = 5 + 6 * (4 + 6 * (3 + 6 * (2 + 6 * (1 + 6 * 0))));
    planned(x, up, 0, 360);
    planned(x, up, 5, 420);
    planned(x, down, 5, 360);
    planned(x, down, 0, 425);
    planned(x, down, 2, 402);
    planned(x, down + 46656, 0, -1);
    planned(x, 46655, 0, -1);
    planned(x, up, 6, -1);
  }

  private static void promise28() {
    GamesOffice x = withPersons(12);
    fleet(x, 0);
    x.unit(0, 100, 0, -1, false);
    fleet(x, 0);
    x.unit(1, 100, 15, -1, false);
    fleet(x, 1);
    x.unit(2, 100, 31 << 4, -1, false);
    fleet(x, 3);
    x.seats(5);
    fleet(x, 2);
    x.seats(3);
    fleet(x, 4);
    x.seats(1);
    fleet(x, 9);
    x.seats(12);
    fleet(x, 2);
  }

  private static void promise28Trips() {
    // hall 0: leaves 30 ahead, back 10 ahead; units of 20 follow one another: a bus is back just in time
    GamesOffice x = withPersons(2);
    x.unit(0, 20, 1, -1, false);
    x.unit(0, 20, 2, -1, false);
    begins(x, 1, 380);
    fleet(x, 1);
    GamesOffice short1 = withPersons(2);
    short1.unit(0, 19, 1, -1, false);
    short1.unit(0, 19, 2, -1, false);
    begins(short1, 1, 379);
    fleet(short1, 2);
    // hall 3: 25 minutes there, 25 back
    GamesOffice far = withPersons(2);
    far.unit(3, 50, 1, -1, false);
    far.unit(3, 50, 2, -1, false);
    fleet(far, 1);
    GamesOffice far1 = withPersons(2);
    far1.unit(3, 49, 1, -1, false);
    far1.unit(3, 49, 2, -1, false);
    fleet(far1, 2);
    // halls 0 and 1: the bus for 0 is back at 350, the other one, for 385, leaves at 350
    GamesOffice two = withPersons(2);
    two.unit(0, 5, 1, -1, false);
    two.unit(1, 10, 2, 20 * 10, false);
    begins(two, 1, 385);
    fleet(two, 1);
    GamesOffice near = withPersons(2);
    near.unit(0, 5, 1, -1, false);
    near.unit(1, 10, 2, 19 * 10, false);
    fleet(near, 2);
  }
}
