import java.util.ArrayList;
import java.util.List;
import java.util.function.Supplier;
import java.util.function.ToIntFunction;

/**
 * "Such calls answer -1 and change nothing else": each refused call by each STATUS that it can leave, and each
 * question, is made on an object of its own; all that can be asked of it then, its IMAGE and its SHEETS too, is
 * as with an object that is made alike without that call.
 */
public final class RefusedTest {
  private static final Due due = new Due("RefusedTest");
  private static final int LEAST = Integer.MIN_VALUE;
  private static final int GREATEST = Integer.MAX_VALUE;

  private final String name;
  private final Supplier<GamesOffice> make;
  private final List<List<Integer>> told = new ArrayList<>();

  private RefusedTest(String name, Supplier<GamesOffice> make) {
    this.name = name;
    this.make = make;
    for (int part = 0; part < World.PARTS; part++) told.add(World.told(make.get(), part));
  }

  public static void main(String[] args) {
    RefusedTest empty = new RefusedTest("a new object", GamesOffice::new);
    RefusedTest used = new RefusedTest("an object in use", World::used);
    RefusedTest full = new RefusedTest("a full object", World::full);
    RefusedTest worn = new RefusedTest("an object that was gone back 10 times", World::worn);
    noSuchOfNothing(empty);
    noSuchPersonsAndDoors(used);
    noSuchUnitsAndRooms(used);
    noSuchActsAndSheets(used);
    noSuchWithoutRoom(full);
    noRoom(full);
    notSo(used);
    noPassing(used);
    refusedByTheHost(used);
    lowestOfSeveral(used, full);
    tooLate(new RefusedTest("an object near its last moment", World::late));
    empty.refused("back()", 3, x -> x.back());
    worn.refused("back()", 2, x -> x.back());
    for (RefusedTest world : new RefusedTest[] {empty, used, full}) {
      questions(world);
      doneButNothingElse(world);
    }
    due.end();
  }

  private void same(String call, int part, GamesOffice x) {
    due.is(call + " of " + name + ": all is as it was, part " + part, World.told(x, part).equals(told.get(part)) ? 1 : 0, 1);
  }

  /** A call that is refused and leaves a STATUS. */
  private void refused(String call, int status, ToIntFunction<GamesOffice> refusedCall) {
    for (int part = 0; part < World.PARTS; part++) {
      GamesOffice x = make.get();
      due.refused(call + " of " + name, x, refusedCall.applyAsInt(x), status);
      same(call, part, x);
    }
  }

  /** A question: STATUS stays, too. */
  private void asked(String call, ToIntFunction<GamesOffice> question) {
    for (int part = 0; part < World.PARTS; part++) {
      GamesOffice x = make.get();
      x.zone(100);
      due.is("STATUS ahead of " + call, x.status(), 1);
      question.applyAsInt(x);
      due.is("STATUS behind " + call, x.status(), 1);
      same(call, part, x);
    }
  }

  /** A call that is done and changes nothing but STATUS. */
  private void done(String call, ToIntFunction<GamesOffice> doneCall) {
    for (int part = 0; part < World.PARTS; part++) {
      GamesOffice x = make.get();
      x.zone(100);
      doneCall.applyAsInt(x);
      due.is("STATUS behind " + call, x.status(), 0);
      same(call, part, x);
    }
  }

  /** THE MOMENT is 25110. */
  private static void tooLate(RefusedTest late) {
    late.refused("clock(3690), to 28800,", 2, x -> x.clock(3690));
    late.refused("clock(5000)", 2, x -> x.clock(5000));
    late.refused("clock(5001)", 1, x -> x.clock(5001));
    late.refused("clock(-1)", 1, x -> x.clock(-1));
  }

  private static void noSuchOfNothing(RefusedTest empty) {
    empty.refused("door(-1, 0)", 1, x -> x.door(-1, 0));
    empty.refused("door(0, -1)", 1, x -> x.door(0, -1));
    empty.refused("pass(0, 0, 0, 0)", 1, x -> x.pass(0, 0, 0, 0));
    empty.refused("lose(0, 0)", 1, x -> x.lose(0, 0));
    empty.refused("rule(true, 0, 0, 0, 0)", 1, x -> x.rule(true, 0, 0, 0, 0));
    empty.refused("end(0)", 1, x -> x.end(0));
    empty.refused("go(0, 0, 0)", 1, x -> x.go(0, 0, 0));
    empty.refused("unit(0, 1, 1, -1, false)", 1, x -> x.unit(0, 1, 1, -1, false));
    empty.refused("unit(0, 1, 0, 0, false)", 1, x -> x.unit(0, 1, 0, 0, false));
    empty.refused("result(1)", 1, x -> x.result(1));
    empty.refused("strip(0, 0)", 1, x -> x.strip(0, 0));
    empty.refused("act(0, 0, 0)", 1, x -> x.act(0, 0, 0));
    empty.refused("cell(0, 0, 0)", 10, x -> x.cell(0, 0, 0));
    empty.refused("row(0, 0, 0)", 10, x -> x.row(0, 0, 0));
    for (int k : new int[] {-100, 0, 100}) empty.refused("forge(0, 0, " + k + ")", 10, x -> x.forge(0, 0, k));
    for (int k : new int[] {-100, 0, 100}) empty.refused("forge(2, 0, " + k + ")", 10, x -> x.forge(2, 0, k));
    for (int k : new int[] {-100, 0, 100}) empty.refused("forge(3, 0, " + k + ")", 10, x -> x.forge(3, 0, k));
  }

  private static void noSuchPersonsAndDoors(RefusedTest used) {
    for (int n : new int[] {-1, 8, LEAST, GREATEST}) used.refused("person(" + n + ")", 1, x -> x.person(n));
    for (int n : new int[] {-1, 100, LEAST, GREATEST}) used.refused("zone(" + n + ")", 1, x -> x.zone(n));
    int[][] doors = {{-2, 0}, {0, -2}, {4, 0}, {0, 4}, {0, 0}, {3, 3}, {-1, -1}, {LEAST, 0}, {0, GREATEST}};
    for (int[] d : doors) used.refused("door(" + d[0] + ", " + d[1] + ")", 1, x -> x.door(d[0], d[1]));
    int[][] passes = {{-1, 0, 0, 0}, {5, 0, 0, 0}, {0, -1, 0, 0}, {0, 6, 0, 0}, {0, 0, -1, 0}, {0, 0, 20, 0}, {0, 0, 100, 0},
        {0, 0, 1918, 0}, {0, 0, 2019, 0}, {0, 0, 0, -1}, {0, 0, 0, 12}, {0, 2, 0, 5}, {0, 2, 0, -1}, {LEAST, 0, 0, 0}, {0, 0, GREATEST, 0}};
    for (int[] p : passes) {
      used.refused("pass(" + p[0] + ", " + p[1] + ", " + p[2] + ", " + p[3] + ")", 1, x -> x.pass(p[0], p[1], p[2], p[3]));
    }
    int[][] losses = {{-1, 0}, {8, 0}, {0, -1}, {0, 28800}, {LEAST, 0}, {0, GREATEST}};
    for (int[] l : losses) used.refused("lose(" + l[0] + ", " + l[1] + ")", 1, x -> x.lose(l[0], l[1]));
    int[][] rules = {{-1, 0, 0, 0}, {6, 0, 0, 0}, {0, -1, 0, 0}, {0, 4, 0, 0}, {0, 0, -1, 0}, {0, 0, 20, 0}, {0, 0, 100, 0}, {0, 0, 2019, 0},
        {0, 0, 0, -1}, {0, 0, 0, 1440}, {0, 0, 0, 10000}, {0, 0, 0, 14391438}, {0, 0, 0, 14401439}, {GREATEST, 0, 0, 0}, {0, 0, 0, LEAST}};
    for (int[] r : rules) {
      used.refused("rule(true, " + r[0] + ", " + r[1] + ", " + r[2] + ", " + r[3] + ")", 1, x -> x.rule(true, r[0], r[1], r[2], r[3]));
    }
    for (int rule : new int[] {-1, 6, LEAST, GREATEST}) used.refused("end(" + rule + ")", 1, x -> x.end(rule));
    for (int n : new int[] {-1, 5001, LEAST, GREATEST}) used.refused("clock(" + n + ")", 1, x -> x.clock(n));
    int[][] passings = {{-1, 0, 0}, {5, 0, 0}, {0, -1, 0}, {0, 7, 0}, {0, 0, -1}, {0, 0, 8}, {LEAST, 0, 0}, {0, GREATEST, 0}};
    for (int[] g : passings) used.refused("go(" + g[0] + ", " + g[1] + ", " + g[2] + ")", 1, x -> x.go(g[0], g[1], g[2]));
  }

  private static void noSuchUnitsAndRooms(RefusedTest used) {
    int[][] units = {{-1, 1, 0, -1}, {4, 1, 0, -1}, {0, 0, 0, -1}, {0, 241, 0, -1}, {0, 1, -1, -1}, {0, 1, 32, -1}, {0, 1, 0, -2},
        {0, 1, 0, 3}, {0, 1, 0, 9}, {0, 1, 0, 2010}, {0, 1, 0, -10}, {LEAST, 1, 0, -1}, {0, GREATEST, 0, -1}, {0, 1, LEAST, -1}, {0, 1, 0, GREATEST}};
    for (int[] u : units) {
      used.refused("unit(" + u[0] + ", " + u[1] + ", " + u[2] + ", " + u[3] + ", true)", 1, x -> x.unit(u[0], u[1], u[2], u[3], true));
    }
    for (int n : new int[] {0, 13, -1, LEAST, GREATEST}) used.refused("seats(" + n + ")", 1, x -> x.seats(n));
    for (int n : new int[] {0, 10, -1, LEAST, GREATEST}) used.refused("room(" + n + ")", 1, x -> x.room(n));
    int[][] groups = {{-1, 1, 0}, {8, 1, 0}, {0, 0, 0}, {0, 10, 0}, {0, 1, -1}, {0, 1, 20}, {0, 1, 100}, {0, 1, 2019}, {LEAST, 1, 0}, {0, 1, GREATEST}};
    for (int[] g : groups) used.refused("group(" + g[0] + ", " + g[1] + ", " + g[2] + ")", 1, x -> x.group(g[0], g[1], g[2]));
    int[] rows = {0, -1, 6, 13, 1 + 13, 1 + 6 * 13, 1 + 169, 1 + 2 * 13 + 3 * 169 + 4 * 2197 + 5 * 28561 + 371293, LEAST, GREATEST};
    for (int row : rows) used.refused("result(" + row + ")", 1, x -> x.result(row));
    int[][] strips = {{-1, 0}, {3, 0}, {0, 3}, {0, -1}, {1, -1}, {2, 12}, {LEAST, 0}, {0, GREATEST}};
    for (int[] s : strips) used.refused("strip(" + s[0] + ", " + s[1] + ")", 1, x -> x.strip(s[0], s[1]));
  }

  private static void noSuchActsAndSheets(RefusedTest used) {
    int[][] acts = {{-1, 0, 0}, {8, 0, 0}, {0, -1, 0}, {0, 4, 0}, {LEAST, 0, 0}, {0, GREATEST, 0}};
    for (int[] a : acts) used.refused("act(" + a[0] + ", " + a[1] + ", " + a[2] + ")", 1, x -> x.act(a[0], a[1], a[2]));
    int[][] sheets = {{-1, 0, 0}, {4, 0, 0}, {1, -2, 0}, {1, 3, 0}, {1, 0, -1}, {1, 0, 41}, {-1, -1, 0}, {4, -1, 0}, {LEAST, 0, 0}, {1, 1, GREATEST}};
    for (int[] s : sheets) used.refused("sheet(" + s[0] + ", " + s[1] + ", " + s[2] + ")", 1, x -> x.sheet(s[0], s[1], s[2]));
    int[][] cells = {{-1, 0, 0}, {4, 0, 0}, {1, 0, -2001}, {1, 0, 2001}, {LEAST, 0, 0}, {1, 0, GREATEST}};
    for (int[] c : cells) used.refused("cell(" + c[0] + ", " + c[1] + ", " + c[2] + ")", 1, x -> x.cell(c[0], c[1], c[2]));
    int[][] rows = {{-1, 2, 1}, {4, 2, 1}, {2, -1, 1}, {2, 3, 1}, {LEAST, 2, 1}, {2, GREATEST, 1}};
    for (int[] r : rows) used.refused("row(" + r[0] + ", " + r[1] + ", " + r[2] + ")", 1, x -> x.row(r[0], r[1], r[2]));
    for (int what : new int[] {-1, 7, LEAST, GREATEST}) used.refused("forge(" + what + ", 1, 0)", 1, x -> x.forge(what, 1, 0));
    for (int what = 0; what <= 6; what++) {
      int w = what;
      int[][] outside = {{-101, 0}, {101, 0}, {1, -101}, {1, 101}, {LEAST, 0}, {1, GREATEST}};
      for (int[] o : outside) used.refused("forge(" + w + ", " + o[0] + ", " + o[1] + ")", 1, x -> x.forge(w, o[0], o[1]));
    }
  }

  private static void noSuchWithoutRoom(RefusedTest full) {
    full.refused("person(8)", 1, x -> x.person(8));
    full.refused("zone(100)", 1, x -> x.zone(100));
    full.refused("door(6, 0)", 1, x -> x.door(6, 0));
    full.refused("door(1, 1)", 1, x -> x.door(1, 1));
    full.refused("pass(12, 0, 0, 0)", 1, x -> x.pass(12, 0, 0, 0));
    full.refused("pass(0, 0, 0, 12)", 1, x -> x.pass(0, 0, 0, 12));
    full.refused("pass(0, 6, 0, 0)", 1, x -> x.pass(0, 6, 0, 0));
    full.refused("pass(0, 0, 100, 0)", 1, x -> x.pass(0, 0, 100, 0));
    full.refused("rule(true, 0, 6, 0, 0)", 1, x -> x.rule(true, 0, 6, 0, 0));
    full.refused("rule(true, 6, 0, 0, 0)", 1, x -> x.rule(true, 6, 0, 0, 0));
    full.refused("rule(true, 0, 0, 100, 0)", 1, x -> x.rule(true, 0, 0, 100, 0));
    full.refused("rule(true, 0, 0, 0, 10000)", 1, x -> x.rule(true, 0, 0, 0, 10000));
    full.refused("unit(4, 1, 0, -1, true)", 1, x -> x.unit(4, 1, 0, -1, true));
    full.refused("unit(0, 241, 0, -1, true)", 1, x -> x.unit(0, 241, 0, -1, true));
    full.refused("unit(0, 1, 4096, -1, true)", 1, x -> x.unit(0, 1, 4096, -1, true));
    full.refused("unit(0, 1, 0, 6, true)", 1, x -> x.unit(0, 1, 0, 6, true));
    full.refused("unit(0, 1, 0, 2015, true)", 1, x -> x.unit(0, 1, 0, 2015, true));
    full.refused("room(10)", 1, x -> x.room(10));
    full.refused("group(8, 1, 0)", 1, x -> x.group(8, 1, 0));
    full.refused("group(0, 10, 0)", 1, x -> x.group(0, 10, 0));
    full.refused("group(0, 1, 20)", 1, x -> x.group(0, 1, 20));
    full.refused("result(0)", 1, x -> x.result(0));
    full.refused("result(14)", 1, x -> x.result(14));
  }

  private static void noRoom(RefusedTest full) {
    full.refused("person(7)", 2, x -> x.person(7));
    full.refused("zone(99)", 2, x -> x.zone(99));
    full.refused("door(5, 0)", 2, x -> x.door(5, 0));
    full.refused("door(-1, 5)", 2, x -> x.door(-1, 5));
    full.refused("pass(11, 5, 1919, 11)", 2, x -> x.pass(11, 5, 1919, 11));
    full.refused("pass(0, 2, 0, 11)", 2, x -> x.pass(0, 2, 0, 11));
    full.refused("rule(false, 5, 5, 1919, 14391439)", 2, x -> x.rule(false, 5, 5, 1919, 14391439));
    full.refused("unit(3, 240, 4095, 2005, true)", 2, x -> x.unit(3, 240, 4095, 2005, true));
    full.refused("unit(0, 1, 0, -1, false)", 2, x -> x.unit(0, 1, 0, -1, false));
    full.refused("room(9)", 2, x -> x.room(9));
    full.refused("group(7, 9, 1919)", 2, x -> x.group(7, 9, 1919));
    full.refused("result(12)", 2, x -> x.result(12));
    full.refused("row(2, 2, 4)", 2, x -> x.row(2, 2, 4));
  }

  private static void notSo(RefusedTest used) {
    used.refused("lose(7, 50)", 3, x -> x.lose(7, 50));
    used.refused("lose(7, 0)", 3, x -> x.lose(7, 0));
    used.refused("lose(7, 28799)", 3, x -> x.lose(7, 28799));
    used.refused("end(5)", 3, x -> x.end(5));
    used.refused("strip(0, 1)", 3, x -> x.strip(0, 1));
    used.refused("strip(1, 4)", 3, x -> x.strip(1, 4));
    used.refused("row(2, 2, 1)", 3, x -> x.row(2, 2, 1));
    used.refused("row(2, 2, 3)", 3, x -> x.row(2, 2, 3));
    used.refused("row(1, 1, 0)", 3, x -> x.row(1, 1, 0));
  }

  private static void noPassing(RefusedTest used) {
    used.refused("go(4, 0, 7), a lost pass,", 21, x -> x.go(4, 0, 7));
    used.refused("go(4, 0, 6), another day,", 22, x -> x.go(4, 0, 6));
    used.refused("go(3, 3, 5), barred,", 23, x -> x.go(3, 3, 5));
    used.refused("go(2, 3, 2), the host elsewhere,", 24, x -> x.go(2, 3, 2));
    used.refused("go(3, 1, 4), more than half,", 25, x -> x.go(3, 1, 4));
    used.refused("go(2, 0, 0), the pass of another one,", 26, x -> x.go(2, 0, 0));
    used.refused("go(2, 1, 3), elsewhere,", 27, x -> x.go(2, 1, 3));
    used.refused("go(2, 5, 3), a zone for nobody,", 28, x -> x.go(2, 5, 3));
    used.refused("go(1, 1, 1), what is full,", 28, x -> x.go(1, 1, 1));
  }

  private static void refusedByTheHost(RefusedTest used) {
    used.refused("cell(3, 0, 5)", 10, x -> x.cell(3, 0, 5));
    for (int i : new int[] {-1, 40, LEAST, GREATEST}) used.refused("cell(1, " + i + ", 5)", 12, x -> x.cell(1, i, 5));
    used.refused("row(3, 2, 1)", 10, x -> x.row(3, 2, 1));
    used.refused("row(2, 1, 1)", 11, x -> x.row(2, 1, 1));
    used.refused("row(1, 0, 0)", 11, x -> x.row(1, 0, 0));
    for (int i : new int[] {-1, 5, 8, LEAST, GREATEST}) used.refused("row(2, 2, " + i + ")", 12, x -> x.row(2, 2, i));
    used.refused("forge(0, 0, 8)", 10, x -> x.forge(0, 0, 8));
    used.refused("forge(0, 1, 0)", 11, x -> x.forge(0, 1, 0));
    used.refused("forge(0, 5, 1)", 11, x -> x.forge(0, 5, 1));
    for (int n : new int[] {-1, -100}) used.refused("forge(1, " + n + ", 0)", 13, x -> x.forge(1, n, 0));
    used.refused("forge(2, 0, 3)", 10, x -> x.forge(2, 0, 3));
    used.refused("forge(2, 0, 0)", 11, x -> x.forge(2, 0, 0));
    used.refused("forge(2, 0, 2)", 11, x -> x.forge(2, 0, 2));
    for (int n : new int[] {-1, 40, -100, 100}) used.refused("forge(2, " + n + ", 1)", 12, x -> x.forge(2, n, 1));
    used.refused("forge(3, 1, 3)", 10, x -> x.forge(3, 1, 3));
    used.refused("forge(3, 1, 1)", 11, x -> x.forge(3, 1, 1));
    used.refused("forge(3, 1, 2)", 11, x -> x.forge(3, 1, 2));
    for (int n : new int[] {-1, 4, -100, 100}) used.refused("forge(3, " + n + ", 0)", 12, x -> x.forge(3, n, 0));
    for (int k : new int[] {0, 1, 2, 5, 6, 7}) used.refused("forge(4, 0, " + k + ")", 14, x -> x.forge(4, 0, k));
    used.refused("forge(5, 0, 0)", 15, x -> x.forge(5, 0, 0));
    for (int n : new int[] {0, 2, -2, 100, -100}) used.refused("forge(6, " + n + ", 0)", 10, x -> x.forge(6, n, 0));
  }

  /** "Where several hold, the lowest." Those of PASSING are in GateBoundsTest. */
  private static void lowestOfSeveral(RefusedTest used, RefusedTest full) {
    used.refused("lose(7, 28800)", 1, x -> x.lose(7, 28800));
    used.refused("lose(7, -1)", 1, x -> x.lose(7, -1));
    used.refused("strip(2, 4), stripped of another result,", 1, x -> x.strip(2, 4));
    used.refused("go(4, 7, 7), a lost pass,", 1, x -> x.go(4, 7, 7));
    used.refused("go(5, 0, 7), a lost pass,", 1, x -> x.go(5, 0, 7));
    used.refused("cell(3, 0, 2001)", 1, x -> x.cell(3, 0, 2001));
    used.refused("cell(3, -1, 0)", 10, x -> x.cell(3, -1, 0));
    used.refused("cell(1, 40, 2001)", 1, x -> x.cell(1, 40, 2001));
    used.refused("row(3, 3, 9)", 1, x -> x.row(3, 3, 9));
    used.refused("row(3, 0, -1)", 10, x -> x.row(3, 0, -1));
    used.refused("row(2, 0, 9)", 11, x -> x.row(2, 0, 9));
    full.refused("row(2, 3, 1)", 1, x -> x.row(2, 3, 1));
    full.refused("row(4, 2, 1)", 1, x -> x.row(4, 2, 1));
    full.refused("row(3, 2, 1)", 2, x -> x.row(3, 2, 1));
    full.refused("row(2, 1, 1)", 2, x -> x.row(2, 1, 1));
    full.refused("row(2, 2, 9)", 2, x -> x.row(2, 2, 9));
    full.refused("row(2, 2, 1)", 2, x -> x.row(2, 2, 1));
    used.refused("forge(0, 101, 8)", 1, x -> x.forge(0, 101, 8));
    used.refused("forge(0, 1, 8)", 10, x -> x.forge(0, 1, 8));
    used.refused("forge(1, -101, 0)", 1, x -> x.forge(1, -101, 0));
    used.refused("forge(2, -101, 0)", 1, x -> x.forge(2, -101, 0));
    used.refused("forge(2, -1, 3)", 10, x -> x.forge(2, -1, 3));
    used.refused("forge(2, 40, 0)", 11, x -> x.forge(2, 40, 0));
    used.refused("forge(3, 101, 0)", 1, x -> x.forge(3, 101, 0));
    used.refused("forge(3, -1, 3)", 10, x -> x.forge(3, -1, 3));
    used.refused("forge(3, -1, 1)", 11, x -> x.forge(3, -1, 1));
    used.refused("forge(4, 101, 0)", 1, x -> x.forge(4, 101, 0));
    used.refused("forge(5, 0, 101)", 1, x -> x.forge(5, 0, 101));
    used.refused("forge(6, 0, 101)", 1, x -> x.forge(6, 0, 101));
  }

  private static void questions(RefusedTest world) {
    for (int n : new int[] {-2, -1, 0, 1, 5, 19, 20, LEAST, GREATEST}) {
      world.asked("personTold(" + n + ", 1)", x -> x.personTold(n, 1));
      world.asked("zoneTold(" + n + ", 1)", x -> x.zoneTold(n, 1));
      world.asked("passTold(" + n + ", 5)", x -> x.passTold(n, 5));
      world.asked("opens(" + n + ", 0, 0, 0)", x -> x.opens(n, 0, 0, 0));
      world.asked("opens(0, 0, " + n + ", " + n + ")", x -> x.opens(0, 0, n, n));
      world.asked("why(" + n + ", 0, 0, 0)", x -> x.why(n, 0, 0, 0));
      world.asked("may(0, " + n + ", 0)", x -> x.may(0, n, 0));
      world.asked("begins(" + n + ")", x -> x.begins(n));
      world.asked("order(" + n + ")", x -> x.order(n));
      world.asked("planned(" + n + ", 0)", x -> x.planned(n, 0));
      world.asked("planned(0, " + n + ")", x -> x.planned(0, n));
      world.asked("rooming(" + n + ")", x -> x.rooming(n));
      world.asked("placed(" + n + ", 0)", x -> x.placed(n, 0));
      world.asked("medals(" + n + ", 3)", x -> x.medals(n, 3));
      world.asked("count(" + n + ")", x -> x.count(n));
      world.asked("trace(" + n + ")", x -> x.trace(n));
    }
    for (int order : new int[] {6 + 2 * 36, 2 + 6, 1 + 2 * 36}) world.asked("planned(" + order + ", 0)", x -> x.planned(order, 0));
    world.asked("fleet()", x -> x.fleet());
    world.asked("status()", x -> x.status());
  }

  /** What the host does well leaves all as it is. */
  private static void doneButNothingElse(RefusedTest world) {
    world.done("clock(0)", x -> x.clock(0));
    world.done("seats(as many as there are)", x -> x.seats(x.count(11)));
    for (int n : new int[] {0, 1, 100}) world.done("forge(1, " + n + ", 0)", x -> x.forge(1, n, 0));
    world.done("forge(4, 0, 4)", x -> x.forge(4, 0, 4));
    world.done("forge(5, 7, 0)", x -> x.forge(5, 7, 0));
    world.done("forge(6, 1, 0)", x -> x.forge(6, 1, 0));
    if (world.name.equals("a new object")) return;
    world.done("forge(0, 0, 0)", x -> x.forge(0, 0, 0));
    world.done("forge(2, 0, 1)", x -> x.forge(2, 0, 1));
    world.done("forge(3, 2, 0)", x -> x.forge(3, 2, 0));
  }
}
