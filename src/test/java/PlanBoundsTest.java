/** The boundary cases of "Terms" 3, a sentence by a test: UNITS, PLANS, THE PLAN, buses, THE FLEET. */
public final class PlanBoundsTest {
  private static final Due due = new Due("PlanBoundsTest");
  private static final int NO_UNIT = -1;

  public static void main(String[] args) {
    hallsAre0To3();
    lengthsAre1To240();
    personsOfUnitAreThere();
    behindIsALesserNumber();
    restsAre0To200();
    notAheadOf360();
    endsAt1440();
    endsAt1200WithLight();
    oneBeginsInTheMinuteInWhichAnotherEnds();
    oneFitsBetweenTwo();
    thirtyMinutesAheadAndBehind();
    thirtyMinutesInOneHallToo();
    behindMustHaveBegun();
    restIsFromTheEnd();
    oneWithoutAMinuteLeavesNoPlan();
    noOrderHasAPlan();
    withoutUnitsThereIsThePlan();
    lastUnitEndsFirst();
    lesserUnitAtTheFirstPlaceThatDiffers();
    sixUnits();
    ordersNameEachUnitOnce();
    digitsBeyondAreNoOrder();
    seatsAre4AtFirst();
    tripsAreRoundedUp();
    busIsBackInThatMinute();
    busFromOneHallToAnother();
    nobodyNeedsNoBus();
    backChangesThePlan();
    due.end();
  }

  private static GamesOffice withPersons(int many) {
    GamesOffice x = new GamesOffice();
    for (int i = 0; i < many; i++) x.person(0);
    return x;
  }

  /** UNITS in HALL 0 for nobody, behind nothing, without LIGHT. */
  private static GamesOffice withLengths(int... lengths) {
    GamesOffice x = new GamesOffice();
    for (int length : lengths) x.unit(0, length, 0, NO_UNIT, false);
    return x;
  }

  private static int behind(int unit, int rest) {
    return unit + 10 * rest;
  }

  private static int order(int... units) {
    int order = 0;
    for (int i = units.length - 1; i >= 0; i--) order = order * 6 + units[i];
    return order;
  }

  private static void begins(GamesOffice x, int unit, int want) {
    due.asked("begins(" + unit + ")", x, () -> x.begins(unit), want);
  }

  private static void planned(GamesOffice x, int order, int unit, int want) {
    due.asked("planned(" + order + ", " + unit + ")", x, () -> x.planned(order, unit), want);
  }

  private static void isOrder(GamesOffice x, int... want) {
    for (int i = 0; i < want.length; i++) {
      int place = i;
      due.asked("order(" + i + ")", x, () -> x.order(place), want[i]);
    }
    due.asked("order behind the last one", x, () -> x.order(want.length), -1);
  }

  private static void fleet(GamesOffice x, int want) {
    due.asked("fleet()", x, () -> x.fleet(), want);
  }

  private static void hasNoPlan(GamesOffice x, int units) {
    begins(x, -1, -1);
    for (int unit = 0; unit < units; unit++) begins(x, unit, -1);
    isOrder(x);
    fleet(x, -1);
  }

  private static void hallsAre0To3() {
    GamesOffice x = new GamesOffice();
    due.refused("hall -1", x, x.unit(-1, 10, 0, NO_UNIT, false), 1);
    due.refused("hall 4", x, x.unit(4, 10, 0, NO_UNIT, false), 1);
    for (int hall = 0; hall <= 3; hall++) due.done("hall " + hall, x, x.unit(hall, 10, 0, NO_UNIT, false), hall);
    // each has a hall of its own
    for (int unit = 0; unit <= 3; unit++) begins(x, unit, 360);
    due.done("hall 3 again", x, x.unit(3, 10, 0, NO_UNIT, false), 4);
    begins(x, 4, 370);
  }

  private static void lengthsAre1To240() {
    GamesOffice x = new GamesOffice();
    due.refused("0 long", x, x.unit(0, 0, 0, NO_UNIT, false), 1);
    due.refused("241 long", x, x.unit(0, 241, 0, NO_UNIT, false), 1);
    due.done("1 long", x, x.unit(0, 1, 0, NO_UNIT, false), 0);
    begins(x, -1, 361);
    due.done("240 long", x, x.unit(0, 240, 0, NO_UNIT, false), 1);
    begins(x, 1, 361);
    begins(x, -1, 601);
  }

  private static void personsOfUnitAreThere() {
    GamesOffice x = withPersons(3);
    due.refused("persons below 0", x, x.unit(0, 10, -1, NO_UNIT, false), 1);
    due.refused("the least bits", x, x.unit(0, 10, Integer.MIN_VALUE, NO_UNIT, false), 1);
    due.refused("person 3, that is not there", x, x.unit(0, 10, 8, NO_UNIT, false), 1);
    due.refused("persons 0 to 3", x, x.unit(0, 10, 15, NO_UNIT, false), 1);
    due.done("none", x, x.unit(0, 10, 0, NO_UNIT, false), 0);
    due.done("all three", x, x.unit(0, 10, 7, NO_UNIT, false), 1);
    x.person(0);
    due.done("person 3, that came", x, x.unit(0, 10, 8, NO_UNIT, false), 2);
    GamesOffice full = withPersons(12);
    due.refused("bit 12", full, full.unit(0, 10, 4096, NO_UNIT, false), 1);
    due.done("all twelve", full, full.unit(0, 10, 4095, NO_UNIT, false), 0);
    GamesOffice nobody = new GamesOffice();
    due.refused("person 0, that is not there", nobody, nobody.unit(0, 10, 1, NO_UNIT, false), 1);
    due.done("none where none is", nobody, nobody.unit(0, 10, 0, NO_UNIT, false), 0);
  }

  private static void behindIsALesserNumber() {
    GamesOffice x = new GamesOffice();
    for (int unit = 0; unit < 6; unit++) {
      due.refused("unit " + unit + " behind itself", x, x.unit(0, 10, 0, behind(unit, 0), false), 1);
      due.refused("unit " + unit + " behind 9", x, x.unit(0, 10, 0, behind(9, 0), false), 1);
      due.refused("unit " + unit + " behind -2", x, x.unit(0, 10, 0, -2, false), 1);
      int last = unit == 0 ? NO_UNIT : behind(unit - 1, 0);
      due.done("unit " + unit + " behind the last one", x, x.unit(0, 10, 0, last, false), unit);
    }
    for (int unit = 0; unit < 6; unit++) begins(x, unit, 360 + 10 * unit);
    GamesOffice y = withLengths(10, 10);
    due.done("behind the first one", y, y.unit(1, 10, 0, behind(0, 0), false), 2);
    begins(y, 2, 370);
  }

  private static void restsAre0To200() {
    GamesOffice x = withLengths(10);
    due.refused("a rest of 201", x, x.unit(1, 10, 0, behind(0, 201), false), 1);
    due.done("a rest of 200", x, x.unit(1, 10, 0, behind(0, 200), false), 1);
    due.done("a rest of 0", x, x.unit(2, 10, 0, behind(0, 0), false), 2);
    due.done("a rest of 1", x, x.unit(3, 10, 0, behind(0, 1), false), 3);
    begins(x, 1, 570);
    begins(x, 2, 370);
    begins(x, 3, 371);
  }

  private static void notAheadOf360() {
    GamesOffice x = withLengths(1);
    begins(x, 0, 360);
    planned(x, 0, 0, 360);
  }

  private static void endsAt1440() {
    GamesOffice full = withLengths(240, 240, 240, 240, 120);
    begins(full, -1, 1440);
    begins(full, 4, 1320);
    planned(full, order(0, 1, 2, 3, 4), 4, 1320);
    hasNoPlan(withLengths(240, 240, 240, 240, 121), 5);
    // 360 .. 600, 800 .. 1040, from 1240 on
    for (int last = 199; last <= 201; last++) {
      GamesOffice x = withLengths(240);
      x.unit(1, 240, 0, behind(0, 200), false);
      x.unit(2, last, 0, behind(1, 200), false);
      begins(x, -1, last <= 200 ? 1240 + last : -1);
      begins(x, 0, last <= 200 ? 360 : -1);
    }
  }

  private static void endsAt1200WithLight() {
    GamesOffice x = withLengths(240, 240, 240);
    x.unit(0, 120, 0, NO_UNIT, true);
    planned(x, order(0, 1, 2, 3), 3, 1080);
    GamesOffice late = withLengths(240, 240, 240);
    late.unit(0, 121, 0, NO_UNIT, true);
    planned(late, order(0, 1, 2, 3), 3, -1);
    planned(late, order(0, 1, 3, 2), 3, 840);
    begins(late, -1, 1201);
    isOrder(late, 0, 1, 3, 2);
    // without light it goes
    GamesOffice dark = withLengths(240, 240, 240, 121);
    planned(dark, order(0, 1, 2, 3), 3, 1080);
    isOrder(dark, 0, 1, 2, 3);
  }

  private static void oneBeginsInTheMinuteInWhichAnotherEnds() {
    GamesOffice x = withLengths(17, 5, 1);
    begins(x, 0, 360);
    begins(x, 1, 377);
    begins(x, 2, 382);
    begins(x, -1, 383);
  }

  /** Between 360 + 10 and the beginning of the one that rests 50 there is room for 50, not for 51. */
  private static void oneFitsBetweenTwo() {
    for (int length = 49; length <= 51; length++) {
      GamesOffice x = withLengths(10);
      x.unit(0, 20, 0, behind(0, 50), false);
      x.unit(0, length, 0, NO_UNIT, false);
      planned(x, order(0, 1, 2), 1, 420);
      planned(x, order(0, 1, 2), 2, length <= 50 ? 370 : 440);
    }
  }

  /** UNIT 0 is 360 .. 370, UNIT 1, of PERSON 0, from 470 on; UNIT 2 of PERSON 0 is in a HALL of its own. */
  private static void thirtyMinutesAheadAndBehind() {
    for (int length = 79; length <= 81; length++) {
      GamesOffice x = withPersons(2);
      x.unit(0, 10, 2, NO_UNIT, false);
      x.unit(1, 20, 1, behind(0, 100), false);
      x.unit(2, length, 1, NO_UNIT, false);
      planned(x, order(0, 1, 2), 1, 470);
      planned(x, order(0, 1, 2), 2, length <= 80 ? 360 : 520);
      planned(x, order(0, 2, 1), 2, 360);
      planned(x, order(0, 2, 1), 1, length <= 80 ? 470 : 471);
    }
    // with nobody in common they may be at once
    GamesOffice x = withPersons(2);
    x.unit(0, 10, 1, NO_UNIT, false);
    x.unit(1, 10, 2, NO_UNIT, false);
    begins(x, 1, 360);
    GamesOffice last = withPersons(12);
    last.unit(0, 10, 4095, NO_UNIT, false);
    last.unit(1, 10, 2048, NO_UNIT, false);
    begins(last, 1, 400);
  }

  private static void thirtyMinutesInOneHallToo() {
    GamesOffice x = withPersons(2);
    x.unit(0, 10, 3, NO_UNIT, false);
    x.unit(0, 10, 2, NO_UNIT, false);
    begins(x, 1, 400);
    // the rest and the 30 minutes are not added up: the greater one counts
    GamesOffice less = withPersons(1);
    less.unit(0, 10, 1, NO_UNIT, false);
    less.unit(0, 10, 1, behind(0, 29), false);
    begins(less, 1, 400);
    GamesOffice more = withPersons(1);
    more.unit(0, 10, 1, NO_UNIT, false);
    more.unit(0, 10, 1, behind(0, 31), false);
    begins(more, 1, 401);
  }

  private static void behindMustHaveBegun() {
    GamesOffice x = withLengths(10);
    x.unit(1, 10, 0, behind(0, 0), false);
    x.unit(2, 10, 0, behind(1, 0), false);
    int[][] orders = {{0, 1, 2}, {0, 2, 1}, {1, 0, 2}, {1, 2, 0}, {2, 0, 1}, {2, 1, 0}};
    for (int[] o : orders) {
      boolean isPlan = o == orders[0];
      for (int unit = 0; unit < 3; unit++) planned(x, order(o), unit, isPlan ? 360 + 10 * unit : -1);
    }
    isOrder(x, 0, 1, 2);
  }

  private static void restIsFromTheEnd() {
    GamesOffice x = withLengths(100);
    x.unit(1, 10, 0, behind(0, 7), false);
    begins(x, 1, 360 + 100 + 7);
    // the hall is taken when the rest is over
    GamesOffice taken = withLengths(100, 50);
    taken.unit(0, 10, 0, behind(0, 7), false);
    planned(taken, order(0, 1, 2), 2, 510);
    planned(taken, order(0, 2, 1), 2, 467);
    planned(taken, order(0, 2, 1), 1, 477);
  }

  /** All UNITS of the order are without a MINUTE then, those that had one, too. */
  private static void oneWithoutAMinuteLeavesNoPlan() {
    GamesOffice x = withLengths(240, 240, 240, 240);
    x.unit(0, 10, 0, NO_UNIT, true);
    x.unit(1, 10, 0, NO_UNIT, false);
    int late = order(5, 0, 1, 2, 3, 4);
    for (int unit = 0; unit < 6; unit++) planned(x, late, unit, -1);
    int early = order(5, 4, 0, 1, 2, 3);
    int[] want = {370, 610, 850, 1090, 360, 360};
    for (int unit = 0; unit < 6; unit++) planned(x, early, unit, want[unit]);
    GamesOffice turned = withLengths(10);
    turned.unit(1, 10, 0, behind(0, 0), false);
    turned.unit(2, 10, 0, NO_UNIT, false);
    for (int unit = 0; unit < 3; unit++) planned(turned, order(2, 1, 0), unit, -1);
    planned(turned, order(2, 0, 1), 2, 360);
  }

  private static void noOrderHasAPlan() {
    GamesOffice x = withLengths(240);
    for (int unit = 1; unit <= 3; unit++) x.unit(0, 240, 0, behind(unit - 1, 0), false);
    begins(x, -1, 1320);
    x.image();
    x.unit(0, 120, 0, behind(3, 1), false);
    hasNoPlan(x, 5);
    for (int unit = 0; unit < 5; unit++) planned(x, order(0, 1, 2, 3, 4), unit, -1);
    // one unit more does not bring it back
    x.unit(1, 1, 0, NO_UNIT, false);
    hasNoPlan(x, 6);
    x.back();
    begins(x, -1, 1320);
    x.unit(0, 120, 0, behind(3, 0), false);
    begins(x, -1, 1440);
  }

  private static void withoutUnitsThereIsThePlan() {
    GamesOffice x = withPersons(3);
    begins(x, -1, 0);
    begins(x, 0, -1);
    isOrder(x);
    fleet(x, 0);
    planned(x, 0, 0, -1);
    planned(x, 0, -1, -1);
  }

  private static void lastUnitEndsFirst() {
    // 0 ahead of 1: 2 waits for 1 till 560; 1 ahead of 0: they all end at 520
    GamesOffice x = withLengths(60, 100);
    x.unit(1, 60, 0, behind(1, 0), false);
    isOrder(x, 1, 0, 2);
    begins(x, -1, 520);
    GamesOffice shorter = withLengths(60, 40);
    shorter.unit(1, 20, 0, behind(1, 0), false);
    isOrder(shorter, 1, 0, 2);
    begins(shorter, -1, 460);
    GamesOffice other = withLengths(60, 40);
    other.unit(1, 60, 0, behind(0, 0), false);
    isOrder(other, 0, 1, 2);
    begins(other, -1, 480);
  }

  private static void lesserUnitAtTheFirstPlaceThatDiffers() {
    // all orders end at 390: the least one is it
    isOrder(withLengths(10, 10, 10), 0, 1, 2);
    // 2 must be ahead of 1 to end at 470; whether 0 comes first, second or last does not matter
    GamesOffice x = withLengths(10);
    x.unit(1, 50, 0, NO_UNIT, false);
    x.unit(1, 30, 0, NO_UNIT, false);
    x.unit(2, 80, 0, behind(2, 0), false);
    isOrder(x, 0, 2, 1, 3);
    begins(x, -1, 470);
    begins(x, 1, 390);
    planned(x, order(2, 0, 1, 3), 3, 390);
    planned(x, order(2, 3, 1, 0), 1, 390);
  }

  private static void sixUnits() {
    GamesOffice x = withLengths(10, 20, 30, 40, 50, 60);
    begins(x, -1, 570);
    isOrder(x, 0, 1, 2, 3, 4, 5);
    due.refused("a 7th unit", x, x.unit(0, 1, 0, NO_UNIT, false), 2);
    begins(x, -1, 570);
    planned(x, order(5, 4, 3, 2, 1, 0), 0, 560);
    begins(x, 6, -1);
    begins(x, 5, 510);
  }

  /** Of all numbers that can tell an order just those are one that name each UNIT once. */
  private static void ordersNameEachUnitOnce() {
    int factorial = 1;
    for (int many = 1; many <= 6; many++) {
      factorial *= many;
      int[] lengths = new int[many];
      for (int i = 0; i < many; i++) lengths[i] = 10;
      int orders = 0;
      GamesOffice x = withLengths(lengths);
      for (int order = -10; order < 46656 + 40; order++) {
        // fewer than 512 calls an object
        if (order % 400 == 0) x = withLengths(lengths);
        if (x.planned(order, many - 1) != -1) orders++;
      }
      due.is("how many orders of " + many + " units have a PLAN", orders, factorial);
    }
  }

  private static void digitsBeyondAreNoOrder() {
    GamesOffice x = withLengths(10, 10);
    planned(x, order(0, 1), 1, 370);
    planned(x, order(0, 1, 1), 1, -1);
    planned(x, order(0, 1, 0, 0, 0, 0, 1), 1, -1);
    planned(x, order(0, 1, 0), 1, 370);
    planned(x, order(0, 2), 0, -1);
    planned(x, order(0, 0), 0, -1);
    planned(x, order(1, 1), 1, -1);
    planned(x, -order(0, 1), 0, -1);
    planned(x, Integer.MIN_VALUE, 0, -1);
    planned(x, Integer.MAX_VALUE, 0, -1);
    planned(x, order(0, 1), 2, -1);
    planned(x, order(0, 1), -1, -1);
  }

  private static void seatsAre4AtFirst() {
    GamesOffice x = withPersons(12);
    due.is("count(11)", x.count(11), 4);
    due.refused("seats(0)", x, x.seats(0), 1);
    due.refused("seats(13)", x, x.seats(13), 1);
    x.unit(0, 10, 15, NO_UNIT, false);
    fleet(x, 1);
    due.done("seats(1), which were 4", x, x.seats(1), 4);
    fleet(x, 4);
    due.done("seats(12), which were 1", x, x.seats(12), 1);
    fleet(x, 1);
    due.done("seats(3), which were 12", x, x.seats(3), 12);
    fleet(x, 2);
  }

  private static void tripsAreRoundedUp() {
    for (int persons = 0; persons <= 12; persons++) {
      GamesOffice x = withPersons(12);
      x.unit(0, 10, (1 << persons) - 1, NO_UNIT, false);
      for (int seats = 1; seats <= 12; seats++) {
        x.seats(seats);
        int full = persons / seats;
        fleet(x, persons % seats == 0 ? full : full + 1);
      }
    }
  }

  /** A bus for a HALL is busy for twice its way: two UNITS that follow one another there, by their length. */
  private static void busIsBackInThatMinute() {
    int[] busyFor = {20, 30, 40, 50};
    for (int hall = 0; hall <= 3; hall++) {
      for (int less = -1; less <= 1; less++) {
        GamesOffice x = withPersons(2);
        x.unit(hall, busyFor[hall] - less, 1, NO_UNIT, false);
        x.unit(hall, 10, 2, NO_UNIT, false);
        begins(x, 1, 360 + busyFor[hall] - less);
        fleet(x, less > 0 ? 2 : 1);
      }
    }
  }

  /** UNIT 0 begins at 360 in a HALL: its bus is back at 340 and the way; the other one leaves at its beginning without 20 and the way. */
  private static void busFromOneHallToAnother() {
    for (int first = 0; first <= 3; first++) {
      for (int second = 0; second <= 3; second++) {
        int rest = 10 + 5 * first + 10 + 5 * second;
        fleet(twoHalls(first, second, rest), 1);
        fleet(twoHalls(first, second, rest - 1), 2);
      }
    }
  }

  private static GamesOffice twoHalls(int first, int second, int apart) {
    GamesOffice x = withPersons(2);
    x.unit(first, 1, 1, NO_UNIT, false);
    x.unit(second, 1, 2, behind(0, apart - 1), false);
    return x;
  }

  private static void nobodyNeedsNoBus() {
    GamesOffice x = withPersons(1);
    for (int i = 0; i < 3; i++) x.unit(i, 10, 0, NO_UNIT, false);
    fleet(x, 0);
    x.unit(3, 10, 1, NO_UNIT, false);
    fleet(x, 1);
  }

  private static void backChangesThePlan() {
    GamesOffice x = withPersons(2);
    x.unit(0, 30, 1, NO_UNIT, false);
    x.image();
    x.seats(1);
    for (int i = 0; i < 5; i++) x.unit(0, 240, 3, NO_UNIT, true);
    hasNoPlan(x, 6);
    x.back();
    begins(x, -1, 390);
    begins(x, 0, 360);
    begins(x, 1, -1);
    isOrder(x, 0);
    planned(x, 0, 0, 360);
    planned(x, order(0, 1), 0, -1);
    fleet(x, 1);
    due.is("count(11)", x.count(11), 4);
    due.done("the next unit", x, x.unit(1, 5, 2, NO_UNIT, false), 1);
    begins(x, 1, 360);
  }
}
