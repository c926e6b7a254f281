import java.util.ArrayList;
import java.util.List;

/** Objects that are made by the same calls each time, and all that can be asked of one. */
final class World {
  /** By so many lists of calls is everything asked; each of them takes fewer than 350 calls. */
  static final int PARTS = 7;

  private static final int PERSONS = 12;
  private static final int ZONES = 6;
  private static final int DOORS = 12;
  private static final int PASSES = 20;
  private static final int[] MOMENTS = {0, 60, 1500, 28799};
  private static final int[] TOLD_AT = {0, 100, 28799};
  // for 0, 3 and 6 UNITS, each in its order and turned round
  private static final int[] ORDERS = {0, 6 + 2 * 36, 2 + 6, 0 + 6 + 2 * 36 + 3 * 216 + 4 * 1296 + 5 * 7776, 5 + 4 * 6 + 3 * 36 + 2 * 216 + 1296};

  private World() {
  }

  /** Something of each sort, no table full, an IMAGE that is not as all is now; THE MOMENT is 110. */
  static GamesOffice used() {
    GamesOffice x = new GamesOffice();
    for (int nation : new int[] {0, 1, 2, 3, 1}) x.person(nation);
    for (int holds : new int[] {2, 1, 5, 0}) x.zone(holds);
    int[][] doors = {{-1, 0}, {0, 1}, {1, -1}, {-1, 2}, {2, -1}, {-1, 3}, {0, -1}};
    for (int[] d : doors) x.door(d[0], d[1]);
    int[][] passes = {{0, 0, 19, 0}, {1, 1, 19, 3}, {2, 2, 19, 1}, {2, 3, 5, 7}, {3, 4, 3, 11}, {3, 5, 19, 4}, {4, 0, 509, 0}, {4, 0, 19, 0}};
    for (int[] p : passes) x.pass(p[0], p[1], p[2], p[3]);
    for (int zone : new int[] {0, 2, 1, 3}) x.rule(true, 0, zone, 19, 1439);
    x.rule(false, 5, 2, 19, 1439);
    x.rule(false, 1, 0, 19, 700710);
    x.clock(100);
    x.lose(7, 50);
    x.end(5);
    x.go(0, 0, 0);
    x.go(1, 0, 1);
    units(x, 3);
    x.room(3);
    x.room(2);
    groups(x, 3);
    for (int row : new int[] {1 + 2 * 13 + 3 * 169, 5 + 13, 2}) x.result(row);
    x.strip(0, 1);
    sheets(x);
    x.image();
    x.clock(10);
    x.go(0, 1, 0);
    x.strip(1, 4);
    x.seats(3);
    x.act(5, 3, 7);
    return x;
  }

  /** Every table full; the IMAGE is the new object. */
  static GamesOffice full() {
    GamesOffice x = new GamesOffice();
    x.image();
    for (int i = 0; i < PERSONS; i++) x.person(i % 8);
    for (int i = 0; i < ZONES; i++) x.zone(i);
    for (int i = 0; i < DOORS; i++) x.door(i % 2 == 0 ? -1 : i / 2, i % 2 == 0 ? i / 2 : -1);
    for (int i = 0; i < PASSES; i++) x.pass(i % PERSONS, i % 6, 19, i % 12);
    for (int i = 0; i < 12; i++) x.rule(i != 7, i / 6, i % 6, 19, 1439);
    x.clock(5);
    x.go(1, 4, 13);
    units(x, 6);
    for (int i = 0; i < 4; i++) x.room(2 + i);
    groups(x, 6);
    for (int i = 0; i < 10; i++) x.result(1 + i + 13 * (1 + (i + 1) % 12));
    x.strip(3, 4);
    sheets(x);
    x.act(4, 1, 9);
    return x;
  }

  /** It was gone back 10 times. */
  static GamesOffice worn() {
    GamesOffice x = used();
    for (int i = 0; i < 10; i++) x.back();
    x.clock(3);
    return x;
  }

  /** THE MOMENT is 25110. */
  static GamesOffice late() {
    GamesOffice x = used();
    for (int i = 0; i < 5; i++) x.clock(5000);
    return x;
  }

  private static void units(GamesOffice x, int many) {
    for (int i = 0; i < many; i++) x.unit(i % 4, 60 + i, 3 << i % 4, i % 3 == 2 ? 50 + i - 1 : -1, i % 2 == 0);
  }

  private static void groups(GamesOffice x, int many) {
    for (int i = 0; i < many; i++) x.group(i % 2, 1 + i % 3, 100 * i + 4 + i);
  }

  /** SHEET 0 of bytes tells PASSES from places 0 and 1 on, 1 of shorts none, 2 of ints from places 0 and 4 on; 3 is missing. */
  private static void sheets(GamesOffice x) {
    int[] bytes = {1, 3, 5, 11, 2};
    int[] ints = {1, 4, 719, 6, 0, 3, 505, 2};
    x.sheet(0, 0, bytes.length);
    x.sheet(1, 1, 40);
    x.sheet(2, 2, ints.length);
    for (int i = 0; i < bytes.length; i++) x.cell(0, i, bytes[i]);
    for (int i = 0; i < 40; i += 8) x.cell(1, i, 100 * i - 2000);
    for (int i = 0; i < ints.length; i++) x.cell(2, i, ints[i]);
  }

  /** All that one list of calls is answered. */
  static List<Integer> told(GamesOffice x, int part) {
    List<Integer> told = new ArrayList<>();
    switch (part) {
      case 0: tellTables(x, told); break;
      case 1: tellMedals(x, told); break;
      case 2: tellDoors(x, told); break;
      case 3: tellRules(x, told); break;
      case 4: tellPlans(x, told); break;
      case 5: tellSheets(x, told); break;
      default: tellImage(x, told); break;
    }
    return told;
  }

  private static void tellTables(GamesOffice x, List<Integer> told) {
    for (int what = 0; what <= 12; what++) told.add(x.count(what));
    for (int person = 0; person < PERSONS; person++) for (int what = 0; what < 4; what++) told.add(x.personTold(person, what));
    for (int zone = 0; zone < ZONES; zone++) for (int what = 0; what < 4; what++) told.add(x.zoneTold(zone, what));
    for (int pass = 0; pass < PASSES; pass++) for (int what = 0; what < 6; what++) told.add(x.passTold(pass, what));
  }

  private static void tellMedals(GamesOffice x, List<Integer> told) {
    for (int nation = 0; nation < 8; nation++) for (int what = 0; what < 4; what++) told.add(x.medals(nation, what));
    for (int result = 0; result < 10; result++) for (int i = 0; i < 5; i++) told.add(x.placed(result, i));
    for (int i = 0; i < 50; i++) told.add(x.trace(i));
    for (int pass = 0; pass < PASSES; pass++) told.add(x.may(pass % PERSONS, 2, pass));
    for (int door = 0; door < DOORS; door++) told.add(x.may(0, door, 0));
  }

  private static void tellDoors(GamesOffice x, List<Integer> told) {
    int now = x.count(5);
    for (int pass = 0; pass < PASSES; pass++) for (int door = 0; door < DOORS; door++) told.add(x.opens(pass, door, now, now));
  }

  private static void tellRules(GamesOffice x, List<Integer> told) {
    for (int pass = 0; pass < 6; pass++) {
      for (int zone = 0; zone < 3; zone++) {
        for (int moment : MOMENTS) for (int at : TOLD_AT) told.add(x.why(pass, zone, moment, at));
      }
    }
  }

  private static void tellPlans(GamesOffice x, List<Integer> told) {
    for (int unit = -1; unit < 6; unit++) told.add(x.begins(unit));
    for (int i = 0; i < 6; i++) told.add(x.order(i));
    for (int order : ORDERS) for (int unit = 0; unit < 6; unit++) told.add(x.planned(order, unit));
    told.add(x.fleet());
    for (int group = -1; group < 6; group++) told.add(x.rooming(group));
    for (int seats = 1; seats <= 3; seats++) {
      told.add(x.seats(seats));
      told.add(x.fleet());
    }
  }

  /** First what stands in the SHEETS, by calls that are done, then where nothing stands. */
  private static void tellSheets(GamesOffice x, List<Integer> told) {
    for (int i = 0; i < 40; i++) tell(x, x.forge(2, i, 1), told);
    for (int n = 0; n < 4; n++) tell(x, x.forge(3, n, 0), told);
    int before = x.count(3);
    int[][] rows = {{0, 0, 0}, {0, 0, 1}, {2, 2, 0}, {2, 2, 4}};
    for (int[] r : rows) tell(x, x.row(r[0], r[1], r[2]), told);
    for (int pass = before; pass < x.count(3); pass++) for (int what = 0; what < 5; what++) told.add(x.passTold(pass, what));
    for (int sheet = 0; sheet < 4; sheet++) {
      tell(x, x.forge(2, 0, sheet), told);
      tell(x, x.forge(3, 0, sheet), told);
      for (int sort = 0; sort < 3; sort++) tell(x, x.row(sheet, sort, 3), told);
      for (int i : new int[] {4, 5, 7, 8, 39, 40}) tell(x, x.cell(sheet, i, 1), told);
    }
  }

  /** What the IMAGE holds, and how often it can be gone back to. */
  private static void tellImage(GamesOffice x, List<Integer> told) {
    tell(x, x.back(), told);
    for (int what = 0; what <= 12; what++) told.add(x.count(what));
    for (int person = 0; person < 5; person++) for (int what = 1; what < 4; what++) told.add(x.personTold(person, what));
    for (int zone = 0; zone < 4; zone++) for (int what = 0; what < 4; what++) told.add(x.zoneTold(zone, what));
    for (int pass = 0; pass < 8; pass++) told.add(x.passTold(pass, 5));
    for (int nation = 0; nation < 8; nation++) told.add(x.medals(nation, 3));
    for (int unit = -1; unit < 6; unit++) told.add(x.begins(unit));
    for (int group = -1; group < 6; group++) told.add(x.rooming(group));
    told.add(x.fleet());
    for (int i = 0; i < 12; i++) tell(x, x.back(), told);
  }

  private static void tell(GamesOffice x, int answer, List<Integer> told) {
    told.add(answer);
    told.add(x.status());
  }
}
