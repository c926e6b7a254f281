/** Promises 35 to 38: SHEETS, and what the host refuses. */
public final class SheetsTest {
  private static final Due due = new Due("SheetsTest");
  private static final int LEAST = Integer.MIN_VALUE;
  private static final int GREATEST = Integer.MAX_VALUE;

  public static void main(String[] args) {
    promise35();
    promise36();
    promise36Sorts();
    promise37();
    promise37Order();
    promise38Kinds();
    promise38Rows();
    promise38Shorts();
    promise38Bytes();
    promise38Store();
    promise38Divide();
    promise38Failures();
    promise38Edges();
    due.end();
  }

  private static void forge(GamesOffice x, int what, int n, int k, int want) {
    due.done("forge(" + what + ", " + n + ", " + k + ")", x, x.forge(what, n, k), want);
  }

  private static void forgeRefused(GamesOffice x, int what, int n, int k, int status) {
    due.refused("forge(" + what + ", " + n + ", " + k + ")", x, x.forge(what, n, k), status);
  }

  private static void promise35() {
    GamesOffice x = new GamesOffice();
    int[][] wrong = {{-1, 0, 0}, {4, 0, 0}, {0, -2, 0}, {0, 3, 0}, {0, 0, -1}, {0, 0, 41}, {4, -1, 0}, {-1, -1, 0},
        {LEAST, 0, 0}, {GREATEST, 0, 0}, {0, LEAST, 0}, {0, GREATEST, 0}, {0, 0, LEAST}, {0, 0, GREATEST}};
    for (int[] s : wrong) due.refused("sheet(" + s[0] + ", " + s[1] + ", " + s[2] + ")", x, x.sheet(s[0], s[1], s[2]), 1);
    for (int sheet = 0; sheet < 4; sheet++) due.refused("cell of a missing sheet", x, x.cell(sheet, 0, 0), 10);
    due.done("sheet(0, 1, 40)", x, x.sheet(0, 1, 40), 1);
    forge(x, 2, 39, 0, 0);
    forgeRefused(x, 2, 40, 0, 12);
    due.done("sheet(3, 1, 0)", x, x.sheet(3, 1, 0), 1);
    due.refused("cell of a sheet without numbers", x, x.cell(3, 0, 0), 12);
    // made anew: all 0
    x.cell(0, 0, 76);
    x.cell(0, 5, 77);
    forge(x, 2, 0, 0, 76);
    forge(x, 2, 5, 0, 77);
    due.done("sheet(0, 1, 6)", x, x.sheet(0, 1, 6), 1);
    for (int i = 0; i < 6; i++) forge(x, 2, i, 0, 0);
    forgeRefused(x, 2, 6, 0, 12);
    x.cell(0, 1, 9);
    due.refused("sheet(0, 1, 41)", x, x.sheet(0, 1, 41), 1);
    forge(x, 2, 1, 0, 9);
    // missing from now on, whatever n is
    for (int n : new int[] {-1, 0, 41, LEAST, GREATEST}) {
      x.sheet(0, 1, 3);
      due.done("sheet(0, -1, " + n + ")", x, x.sheet(0, -1, n), 1);
      due.refused("cell of the missing sheet", x, x.cell(0, 0, 0), 10);
    }
    due.done("a missing one is missing again", x, x.sheet(0, -1, 0), 1);
  }

  private static void promise36() {
    GamesOffice x = new GamesOffice();
    x.sheet(1, 2, 3);
    int[][] wrong = {{-1, 0, 0}, {4, 0, 0}, {1, 0, 2001}, {1, 0, -2001}, {LEAST, 0, 0}, {1, 0, LEAST}, {1, 0, GREATEST},
        {0, 0, 2001}, {1, 3, 2001}};
    for (int[] c : wrong) due.refused("cell(" + c[0] + ", " + c[1] + ", " + c[2] + ")", x, x.cell(c[0], c[1], c[2]), 1);
    due.refused("cell(0, 0, 0)", x, x.cell(0, 0, 0), 10);
    due.refused("cell(0, -1, 0)", x, x.cell(0, -1, 0), 10);
    for (int i : new int[] {-1, 3, 40, LEAST, GREATEST}) due.refused("cell(1, " + i + ", 0)", x, x.cell(1, i, 0), 12);
    due.done("cell(1, 0, 2000)", x, x.cell(1, 0, 2000), 1);
    due.done("cell(1, 2, -2000)", x, x.cell(1, 2, -2000), 1);
  }

  private static void promise36Sorts() {
    GamesOffice x = new GamesOffice();
    x.sheet(0, 0, 2);
    int[][] cut = {{127, 127}, {128, -128}, {255, -1}, {256, 0}, {300, 44}, {2000, -48}, {-128, -128}, {-129, 127}, {-2000, 48}};
    for (int[] c : cut) {
      due.done("cell(0, 1, " + c[0] + ") of bytes", x, x.cell(0, 1, c[0]), 1);
      forge(x, 3, 1, 0, c[1]);
    }
    x.sheet(0, 1, 2);
    for (int v : new int[] {2000, -2000, 128, 300}) {
      x.cell(0, 1, v);
      forge(x, 2, 1, 0, v);
    }
    // of ints: days that no byte holds
    x.person(0);
    x.sheet(2, 2, 4);
    x.cell(2, 2, 1919);
    due.done("row(2, 2, 0)", x, x.row(2, 2, 0), 0);
    due.is("passTold(0, 2)", x.passTold(0, 2), 19);
    due.is("passTold(0, 3)", x.passTold(0, 3), 19);
  }

  private static void promise37() {
    GamesOffice x = new GamesOffice();
    x.person(0);
    x.person(0);
    for (int sort = 0; sort < 3; sort++) {
      x.sheet(sort, sort, 6);
      int[] numbers = {9, 1, 2, 103, 0, 9};
      for (int i = 0; i < 6; i++) x.cell(sort, i, numbers[i]);
      due.done("row of sort " + sort, x, x.row(sort, sort, 1), sort);
      int[] told = {1, 2, 1, 3, 0, -1};
      for (int what = 0; what < 6; what++) due.is("passTold(" + sort + ", " + what + ")", x.passTold(sort, what), told[what]);
      due.refused("row from place 0", x, x.row(sort, sort, 0), 3);
      due.refused("row from place 2", x, x.row(sort, sort, 2), 3);
      due.refused("row from place 3", x, x.row(sort, sort, 3), 12);
    }
    due.is("count(3)", x.count(3), 3);
    due.is("personTold(1, 2)", x.personTold(1, 2), 3);
    // a guest of a host that is no person, a kind, a day, a number outside
    int[][] none = {{0, 2, 0, 2}, {0, 6, 0, 0}, {0, 0, 20, 0}, {0, 0, 0, 12}, {2, 0, 0, 0}, {-1, 0, 0, 0}, {0, 0, 201, 0}};
    for (int[] p : none) {
      for (int i = 0; i < 4; i++) x.cell(2, i, p[i]);
      due.refused("row of " + p[0] + ", " + p[1] + ", " + p[2] + ", " + p[3], x, x.row(2, 2, 0), 3);
    }
    due.is("count(3)", x.count(3), 3);
  }

  private static void promise37Order() {
    GamesOffice x = new GamesOffice();
    x.sheet(0, 0, 4);
    int[][] wrong = {{-1, 0, 0}, {4, 0, 0}, {0, -1, 0}, {0, 3, 0}, {LEAST, 0, 0}, {0, GREATEST, 0}};
    for (int[] r : wrong) due.refused("row(" + r[0] + ", " + r[1] + ", " + r[2] + ")", x, x.row(r[0], r[1], r[2]), 1);
    due.refused("a missing sheet", x, x.row(1, 0, 0), 10);
    due.refused("a missing sheet, a place outside", x, x.row(1, 0, -1), 10);
    due.refused("another sort", x, x.row(0, 1, 0), 11);
    due.refused("another sort, a place outside", x, x.row(0, 2, 9), 11);
    for (int i : new int[] {-1, 1, 4, 40, LEAST, GREATEST, GREATEST - 2}) due.refused("row(0, 0, " + i + ")", x, x.row(0, 0, i), 12);
    due.refused("four numbers that tell none", x, x.row(0, 0, 0), 3);
    x.sheet(0, 0, 3);
    due.refused("three numbers", x, x.row(0, 0, 0), 12);
    x.person(0);
    for (int i = 0; i < 20; i++) x.pass(0, 0, 0, 0);
    due.refused("no room and a missing sheet", x, x.row(1, 0, 0), 2);
    due.refused("no room and another sort", x, x.row(0, 1, 0), 2);
    due.refused("no room and a place outside", x, x.row(0, 0, 9), 2);
    due.refused("no room and no such sort", x, x.row(0, 3, 0), 1);
    x.sheet(0, 0, 4);
    due.refused("no room", x, x.row(0, 0, 0), 2);
  }

  /** PASS k is of KIND k. */
  private static GamesOffice kinds() {
    GamesOffice x = new GamesOffice();
    x.person(0);
    for (int kind = 0; kind < 6; kind++) x.pass(0, kind, 0, 0);
    return x;
  }

  private static void promise38Kinds() {
    GamesOffice x = kinds();
    boolean[][] isOf = {
        {true, false, false, false, false, false},
        {true, true, false, false, false, false},
        {true, false, true, false, false, false},
        {true, false, false, true, false, false},
        {true, false, false, true, true, false},
        {true, true, false, false, false, true}};
    for (int pass = 0; pass < 6; pass++) {
      for (int kind = 0; kind < 6; kind++) {
        if (isOf[pass][kind]) forge(x, 0, kind, pass, pass);
        else forgeRefused(x, 0, kind, pass, 11);
      }
    }
    // modulo 6 and modulo 20, below 0, too
    forge(x, 0, -1, 5, 5);
    forge(x, 0, -5, 5, 5);
    forge(x, 0, 97, 25, 5);
    forge(x, 0, -6, -16, 4);
    forge(x, 0, -3, -96, 4);
    forgeRefused(x, 0, -2, -95, 11);
    forgeRefused(x, 0, 0, 6, 10);
    forgeRefused(x, 0, 0, 19, 10);
    forgeRefused(x, 0, 0, -1, 10);
    forge(x, 0, 0, 100, 0);
    forge(x, 0, 0, -100, 0);
  }

  private static void promise38Rows() {
    GamesOffice x = new GamesOffice();
    for (int n : new int[] {0, 1, 100}) forge(x, 1, n, 0, n);
    for (int n : new int[] {-1, -100}) forgeRefused(x, 1, n, 0, 13);
  }

  private static void promise38Shorts() {
    GamesOffice x = new GamesOffice();
    forgeRefused(x, 2, 0, 0, 10);
    forgeRefused(x, 2, -1, 0, 10);
    x.sheet(3, 1, 2);
    x.cell(3, 1, -700);
    forge(x, 2, 1, 3, -700);
    forge(x, 2, 1, -1, -700);
    forge(x, 2, 1, 99, -700);
    forge(x, 2, 0, -97, 0);
    for (int n : new int[] {-1, 2, 100, -100}) forgeRefused(x, 2, n, 3, 12);
    x.sheet(3, 0, 2);
    forgeRefused(x, 2, 0, 3, 11);
    forgeRefused(x, 2, 5, 3, 11);
    x.sheet(3, 2, 2);
    forgeRefused(x, 2, 0, 3, 11);
    x.sheet(3, 1, 0);
    forgeRefused(x, 2, 0, 3, 12);
  }

  private static void promise38Bytes() {
    GamesOffice x = new GamesOffice();
    forgeRefused(x, 3, 0, 0, 10);
    forgeRefused(x, 3, -1, 0, 10);
    x.sheet(1, 0, 40);
    int[] numbers = {100, 1, -2, 4, 50, 60};
    for (int i = 0; i < numbers.length; i++) x.cell(1, i, numbers[i]);
    forge(x, 3, 0, 1, 0);
    forge(x, 3, 1, 1, 1);
    forge(x, 3, 2, 1, -1);
    forge(x, 3, 3, 1, 3);
    forge(x, 3, 3, -3, 3);
    forge(x, 3, 3, 97, 3);
    // three from place 3 on fill the row of 6
    for (int n : new int[] {4, 6, 100, -1, -100}) forgeRefused(x, 3, n, 1, 12);
    x.sheet(1, 0, 3);
    forge(x, 3, 2, 1, 0);
    forgeRefused(x, 3, 3, 1, 12);
    x.sheet(1, 0, 1);
    forge(x, 3, 0, 1, 0);
    forgeRefused(x, 3, 1, 1, 12);
    x.sheet(1, 0, 0);
    forgeRefused(x, 3, 0, 1, 12);
    for (int sort = 1; sort < 3; sort++) {
      x.sheet(1, sort, 4);
      forgeRefused(x, 3, 1, 1, 11);
      forgeRefused(x, 3, -1, 1, 11);
    }
  }

  private static void promise38Store() {
    GamesOffice x = kinds();
    forge(x, 4, 0, 3, 3);
    forge(x, 4, 0, 4, 4);
    forge(x, 4, 50, 24, 4);
    forge(x, 4, 0, -17, 3);
    for (int k : new int[] {0, 1, 2, 5, 20, -15}) forgeRefused(x, 4, 0, k, 14);
    for (int k : new int[] {6, 19, -1, 99}) forge(x, 4, 0, k, 0);
    due.is("nothing is made", x.count(3), 6);
  }

  private static void promise38Divide() {
    GamesOffice x = new GamesOffice();
    int[][] quotients = {{1, 1000}, {3, 333}, {-3, -333}, {7, 142}, {-100, -10}, {100, 10}, {99, 10}};
    for (int[] q : quotients) forge(x, 5, q[0], 0, q[1]);
    forgeRefused(x, 5, 0, 0, 15);
  }

  private static void promise38Failures() {
    GamesOffice x = new GamesOffice();
    for (int n : new int[] {0, 2, -2, 100, -100}) forgeRefused(x, 6, n, 0, 10);
    for (int n : new int[] {1, 3, -1, 99, -99}) forge(x, 6, n, 0, 1);
  }

  private static void promise38Edges() {
    GamesOffice x = kinds();
    for (int what : new int[] {-1, 7, 8, LEAST, GREATEST}) forgeRefused(x, what, 0, 0, 1);
    for (int what = 0; what <= 6; what++) {
      forgeRefused(x, what, 101, 0, 1);
      forgeRefused(x, what, -101, 0, 1);
      forgeRefused(x, what, 1, 101, 1);
      forgeRefused(x, what, 1, -101, 1);
      forgeRefused(x, what, LEAST, 0, 1);
      forgeRefused(x, what, 1, GREATEST, 1);
    }
  }
}
