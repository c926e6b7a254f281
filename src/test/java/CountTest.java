/** Promises 1, 32 and 39. */
public final class CountTest {
  private static final Due due = new Due("CountTest");

  public static void main(String[] args) {
    promise1();
    promise32();
    promise39();
    due.end();
  }

  private static void promise1() {
    GamesOffice x = new GamesOffice();
    due.is("status()", x.status(), 0);
    for (int what = 0; what <= 12; what++) {
      int asked = what;
      due.asked("count(" + what + ")", x, () -> x.count(asked), what == 11 ? 4 : 0);
    }
    due.is("begins(-1)", x.begins(-1), 0);
    due.is("fleet()", x.fleet(), 0);
    due.is("rooming(-1)", x.rooming(-1), 0);
    due.is("personTold(0, 0)", x.personTold(0, 0), -1);
    due.is("zoneTold(0, 0)", x.zoneTold(0, 0), -1);
    due.is("passTold(0, 0)", x.passTold(0, 0), -1);
    due.is("trace(0)", x.trace(0), -1);
    due.refused("back()", x, x.back(), 3);
    due.refused("cell(0, 0, 0)", x, x.cell(0, 0, 0), 10);
    due.is("NONE", GamesOffice.NONE, -1);
  }

  private static void promise32() {
    GamesOffice x = new GamesOffice();
    for (int i = 0; i < 4; i++) x.person(i);
    for (int i = 0; i < 3; i++) x.zone(i + 1);
    x.door(-1, 2);
    x.door(2, -1);
    for (int i = 0; i < 5; i++) x.pass(0, 0, 19, 0);
    x.rule(true, 0, 2, 19, 1439);
    for (int i = 0; i < 6; i++) x.unit(0, 5, 0, -1, false);
    for (int i = 0; i < 4; i++) x.room(1);
    for (int i = 0; i < 2; i++) x.group(1, 1, 0);
    for (int i = 0; i < 3; i++) x.result(1);
    x.clock(77);
    x.seats(9);
    x.go(0, 0, 0);
    x.act(0, 3, 1);
    int[] want = {4, 3, 2, 5, 1, 77, 6, 4, 2, 3, 3, 9, 4};
    for (int what = 0; what < want.length; what++) {
      int asked = what;
      due.asked("count(" + what + ")", x, () -> x.count(asked), want[what]);
    }
    x.go(0, 1, 0);
    due.is("count(10) with all OUTSIDE again", x.count(10), 4);
    due.asked("count(13)", x, () -> x.count(13), -1);
    due.asked("count(-1)", x, () -> x.count(-1), -1);
    due.asked("count(least)", x, () -> x.count(Integer.MIN_VALUE), -1);
    due.asked("count(greatest)", x, () -> x.count(Integer.MAX_VALUE), -1);
  }

  /** Each call that is no question sets STATUS; a refused one is followed by a done one, so that 0 is told, too. */
  private static void promise39() {
    GamesOffice x = new GamesOffice();
    due.refused("person(8)", x, x.person(8), 1);
    due.done("person(0)", x, x.person(0), 0);
    due.refused("zone(100)", x, x.zone(100), 1);
    due.done("zone(1)", x, x.zone(1), 0);
    due.refused("door(0, 0)", x, x.door(0, 0), 1);
    due.done("door(-1, 0)", x, x.door(-1, 0), 0);
    due.refused("pass(1, 0, 0, 0)", x, x.pass(1, 0, 0, 0), 1);
    due.done("pass(0, 0, 0, 0)", x, x.pass(0, 0, 0, 0), 0);
    due.refused("rule(true, 6, 0, 0, 0)", x, x.rule(true, 6, 0, 0, 0), 1);
    due.done("rule(true, 0, 0, 0, 1439)", x, x.rule(true, 0, 0, 0, 1439), 0);
    due.refused("go(0, 1, 0)", x, x.go(0, 1, 0), 1);
    due.done("go(0, 0, 0)", x, x.go(0, 0, 0), 0);
    due.refused("end(1)", x, x.end(1), 1);
    due.done("end(0)", x, x.end(0), 1);
    due.refused("lose(1, 0)", x, x.lose(1, 0), 1);
    due.done("lose(0, 0)", x, x.lose(0, 0), 1);
    due.refused("clock(-1)", x, x.clock(-1), 1);
    due.done("clock(0)", x, x.clock(0), 0);
    due.refused("unit(4, 1, 0, -1, false)", x, x.unit(4, 1, 0, -1, false), 1);
    due.done("unit(3, 1, 0, -1, false)", x, x.unit(3, 1, 0, -1, false), 0);
    due.refused("seats(13)", x, x.seats(13), 1);
    due.done("seats(12)", x, x.seats(12), 4);
    due.refused("room(0)", x, x.room(0), 1);
    due.done("room(1)", x, x.room(1), 0);
    due.refused("group(8, 1, 0)", x, x.group(8, 1, 0), 1);
    due.done("group(7, 1, 0)", x, x.group(7, 1, 0), 0);
    due.refused("result(2)", x, x.result(2), 1);
    due.done("result(1)", x, x.result(1), 0);
    due.refused("strip(0, 1)", x, x.strip(0, 1), 1);
    due.done("strip(0, 0)", x, x.strip(0, 0), 0);
    due.refused("back()", x, x.back(), 3);
    due.done("image()", x, x.image(), 1);
    due.done("back()", x, x.back(), 0);
    due.refused("act(1, 0, 0)", x, x.act(1, 0, 0), 1);
    due.done("act(0, 0, 0)", x, x.act(0, 0, 0), 0);
    due.refused("sheet(4, 0, 0)", x, x.sheet(4, 0, 0), 1);
    due.done("sheet(3, 0, 4)", x, x.sheet(3, 0, 4), 1);
    due.refused("cell(3, 4, 0)", x, x.cell(3, 4, 0), 12);
    due.done("cell(3, 3, 0)", x, x.cell(3, 3, 0), 1);
    due.refused("row(3, 0, 1)", x, x.row(3, 0, 1), 12);
    due.done("row(3, 0, 0)", x, x.row(3, 0, 0), 1);
    due.refused("forge(7, 0, 0)", x, x.forge(7, 0, 0), 1);
    due.done("forge(1, 0, 0)", x, x.forge(1, 0, 0), 0);
  }
}
