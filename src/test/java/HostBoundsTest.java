/** The boundary cases of "Terms" 5, a sentence by a test: ACTS, THE TRACE, SHEETS, what the host refuses, STATUS; IMAGES. */
public final class HostBoundsTest {
  private static final Due due = new Due("HostBoundsTest");
  private static final int LEAST = Integer.MIN_VALUE;
  private static final int GREATEST = Integer.MAX_VALUE;

  public static void main(String[] args) {
    actsAre0To3();
    numbersWrapAround();
    firstDayAndNumberAtTheirBounds();
    everyActOfEveryKind();
    traceIsOfTheLatestAct();
    traceStaysBehindARefusedAct();
    sheetsAreMissingAtFirst();
    sheetsHave0To40Numbers();
    sheetsAreMadeAnew();
    missingWhateverNIs();
    cellsAreFromMinus2000To2000();
    bytesAreCutToTheirLowest8Bits();
    shortsAndIntsAreNotCut();
    rowIsFromPlaceOn();
    rowTellsAPassAsPassDoes();
    rowRefusesInThisOrder();
    forgeTakesMinus100To100();
    moduloIsNeverBelow0();
    kindsModulo6();
    rowsOfNNumbers();
    numbersOfShorts();
    bytesIntoARowOf6();
    dayOnesAndUpgradesFit();
    thousandDivided();
    failuresThrown();
    imageInPlaceOfOneBefore();
    backTenTimes();
    statusIsOfTheLatestCallThatIsNoQuestion();
    all512Calls();
    due.end();
  }

  private static void act(GamesOffice x, int pass, int act, int n, int want, int bodies) {
    String call = "act(" + pass + ", " + act + ", " + n + ")";
    due.done(call, x, x.act(pass, act, n), want);
    due.is("count(12) behind " + call, x.count(12), bodies);
  }

  private static void forge(GamesOffice x, int what, int n, int k, int want) {
    due.done("forge(" + what + ", " + n + ", " + k + ")", x, x.forge(what, n, k), want);
  }

  private static void forgeRefused(GamesOffice x, int what, int n, int k, int status) {
    due.refused("forge(" + what + ", " + n + ", " + k + ")", x, x.forge(what, n, k), status);
  }

  private static void sheet(GamesOffice x, int sheet, int sort, int... numbers) {
    x.sheet(sheet, sort, numbers.length);
    for (int i = 0; i < numbers.length; i++) x.cell(sheet, i, numbers[i]);
  }

  /** PASS k is of KIND k, with a first DAY and a NUMBER. */
  private static GamesOffice kinds(int day, int number) {
    GamesOffice x = new GamesOffice();
    for (int i = 0; i < 12; i++) x.person(0);
    for (int kind = 0; kind < 6; kind++) x.pass(0, kind, 100 * day + 19, number);
    return x;
  }

  private static void actsAre0To3() {
    GamesOffice x = kinds(1, 2);
    due.refused("act -1", x, x.act(0, -1, 0), 1);
    due.refused("act 4", x, x.act(0, 4, 0), 1);
    due.refused("pass -1", x, x.act(-1, 0, 0), 1);
    due.refused("pass 6, that is not there", x, x.act(6, 0, 0), 1);
    act(x, 0, 0, 0, 1, 1);
    // tell(5), open(5): 5 - 2 + 1 + 2, twice 12, count(5): 0
    act(x, 5, 3, 0, (12 ^ 0) - 1, 8);
    GamesOffice none = new GamesOffice();
    due.refused("pass 0, that is not there", none, none.act(0, 0, 0), 1);
  }

  private static void numbersWrapAround() {
    GamesOffice x = kinds(3, 5);
    act(x, 0, 0, GREATEST - 3, GREATEST, 1);
    act(x, 0, 0, GREATEST - 2, LEAST, 1);
    act(x, 0, 0, LEAST, LEAST + 3, 1);
    // twice a number above half of the greatest one
    act(x, 0, 1, (1 << 30) - 4, GREATEST - 1, 2);
    act(x, 0, 1, (1 << 30) - 3, LEAST, 2);
    act(x, 0, 1, LEAST - 3, 0, 2);
    // a pass's number taken away from the least one
    act(x, 1, 2, LEAST, GREATEST, 1);
    act(x, 1, 2, LEAST + 1, LEAST, 1);
    act(x, 5, 2, LEAST + 4, GREATEST, 1);
    // three times: 2 ahead of the least one is 2 * 2^31 and 2^31 - 2
    act(x, 2, 2, GREATEST, GREATEST - 8, 2);
    act(x, 2, 2, LEAST + 2, LEAST, 2);
    act(x, 3, 2, GREATEST, GREATEST, 2);
    act(x, 3, 2, LEAST, LEAST, 2);
    act(x, 5, 0, LEAST, LEAST + 3, 3);
    act(x, 4, 0, GREATEST, (LEAST + 2) ^ 5, 2);
    // an answer of -1 is an answer, too
    act(x, 0, 0, -4, -1, 1);
    act(x, 0, 3, GREATEST, 4 ^ GREATEST, 4);
  }

  private static void firstDayAndNumberAtTheirBounds() {
    GamesOffice least = kinds(0, 0);
    act(least, 0, 0, 7, 7, 1);
    act(least, 1, 0, 7, 7, 2);
    act(least, 4, 0, 7, 7, 2);
    act(least, 5, 0, 7, 7, 3);
    GamesOffice most = kinds(19, 11);
    act(most, 0, 0, 7, 26, 1);
    act(most, 1, 0, 7, 37, 2);
    act(most, 4, 0, 7, 26 ^ 11, 2);
    act(most, 5, 0, 7, 26, 3);
    act(most, 3, 2, 7, 23, 2);
    for (int i = 6; i < 20; i++) most.pass(0, 2, 19, 11);
    act(most, 19, 2, 0, -57, 2);
  }

  /** By KIND what each ACT answers and how many bodies run, worked out from the bodies of the document by hand. */
  private static void everyActOfEveryKind() {
    int d = 2;
    int t = 9;
    int[] openBodies = {1, 2, 1, 1, 2, 3};
    int[] endBodies = {2, 3, 2, 5, 9, 4};
    int[] countBodies = {1, 1, 2, 2, 2, 1};
    int[] tellBodies = {4, 6, 5, 8, 12, 8};
    for (int x : new int[] {0, 1, -1, 77, GREATEST, LEAST}) {
      GamesOffice o = kinds(d, t);
      int[] open = {x + d, x + d + t, x + d, x + d, x + d ^ t, x - t + d + t};
      int[] count = {x, x - 1, (x - 2) * 3, x + d - 3, x + d - 4, x - 5};
      int[] end = {2 * open[0], 2 * open[1], 2 * open[2], 2 * open[3] + d - 3, 2 * open[4] + d - 4 - (1 + d ^ t), 2 * open[5]};
      // ATHLETE tells 1 less, STAFF so, too, but by x and its number
      int[] tell = new int[6];
      for (int kind = 0; kind < 5; kind++) tell[kind] = end[kind] ^ count[kind];
      tell[1]--;
      tell[5] = (2 * (x + 5 + d) ^ x) - 1;
      for (int kind = 0; kind < 6; kind++) {
        act(o, kind, 0, x, open[kind], openBodies[kind]);
        act(o, kind, 1, x, end[kind], endBodies[kind]);
        act(o, kind, 2, x, count[kind], countBodies[kind]);
        act(o, kind, 3, x, tell[kind], tellBodies[kind]);
      }
    }
  }

  private static void traceIsOfTheLatestAct() {
    GamesOffice x = kinds(1, 2);
    due.asked("trace(0) ahead of all", x, () -> x.trace(0), -1);
    due.asked("count(12) ahead of all", x, () -> x.count(12), 0);
    act(x, 4, 3, 0, x.act(4, 1, 0) ^ x.act(4, 2, 0), 12);
    int[] longest = {13, 51, 40, 11, 50, 10, 41, 12, 50, 10, 41, 12};
    for (int i = 0; i < longest.length; i++) due.is("trace(" + i + ")", x.trace(i), longest[i]);
    for (int i : new int[] {-1, 12, 13, 49, 50, LEAST, GREATEST}) due.asked("trace(" + i + ")", x, () -> x.trace(i), -1);
    act(x, 0, 0, 0, 1, 1);
    due.asked("trace(0) of one body", x, () -> x.trace(0), 10);
    due.asked("trace(1) of one body", x, () -> x.trace(1), -1);
  }

  private static void traceStaysBehindARefusedAct() {
    GamesOffice x = kinds(1, 2);
    act(x, 1, 0, 0, 3, 2);
    for (int[] wrong : new int[][] {{6, 0}, {-1, 0}, {0, 4}, {0, -1}}) {
      due.refused("act(" + wrong[0] + ", " + wrong[1] + ", 0)", x, x.act(wrong[0], wrong[1], 0), 1);
      due.is("count(12)", x.count(12), 2);
      due.is("trace(0)", x.trace(0), 20);
      due.is("trace(1)", x.trace(1), 10);
    }
  }

  private static void sheetsAreMissingAtFirst() {
    GamesOffice x = kinds(0, 0);
    for (int sheet = 0; sheet <= 3; sheet++) {
      due.refused("cell of sheet " + sheet, x, x.cell(sheet, 0, 0), 10);
      for (int sort = 0; sort <= 2; sort++) due.refused("row of sheet " + sheet, x, x.row(sheet, sort, 0), 10);
      forgeRefused(x, 2, 0, sheet, 10);
      forgeRefused(x, 3, 0, sheet, 10);
    }
    due.refused("sheet -1", x, x.sheet(-1, 0, 0), 1);
    due.refused("sheet 4", x, x.sheet(4, 0, 0), 1);
    due.done("sheet 0", x, x.sheet(0, 1, 1), 1);
    due.done("sheet 3", x, x.sheet(3, 1, 1), 1);
    forge(x, 2, 0, 0, 0);
    forgeRefused(x, 2, 0, 1, 10);
    forgeRefused(x, 2, 0, 2, 10);
    forge(x, 2, 0, 3, 0);
  }

  private static void sheetsHave0To40Numbers() {
    for (int sort = 0; sort <= 2; sort++) {
      GamesOffice x = new GamesOffice();
      due.refused("-1 numbers", x, x.sheet(0, sort, -1), 1);
      due.refused("41 numbers", x, x.sheet(0, sort, 41), 1);
      due.refused("cell of what is missing still", x, x.cell(0, 0, 0), 10);
      due.done("40 numbers", x, x.sheet(0, sort, 40), 1);
      due.done("number 0", x, x.cell(0, 0, 1), 1);
      due.done("number 39", x, x.cell(0, 39, 1), 1);
      due.refused("number 40", x, x.cell(0, 40, 1), 12);
      due.refused("number -1", x, x.cell(0, -1, 1), 12);
      due.done("1 number", x, x.sheet(0, sort, 1), 1);
      due.done("number 0 of 1", x, x.cell(0, 0, 1), 1);
      due.refused("number 1 of 1", x, x.cell(0, 1, 1), 12);
      due.done("0 numbers", x, x.sheet(0, sort, 0), 1);
      due.refused("number 0 of 0", x, x.cell(0, 0, 1), 12);
    }
    GamesOffice x = new GamesOffice();
    due.refused("sort -2", x, x.sheet(0, -2, 1), 1);
    due.refused("sort 3", x, x.sheet(0, 3, 1), 1);
  }

  private static void sheetsAreMadeAnew() {
    GamesOffice x = new GamesOffice();
    sheet(x, 1, 1, 5, 6, 7);
    x.sheet(1, 1, 3);
    for (int i = 0; i < 3; i++) forge(x, 2, i, 1, 0);
    sheet(x, 1, 0, 5, 6, 7);
    forge(x, 3, 2, 1, 13);
    x.sheet(1, 1, 3);
    for (int i = 0; i < 3; i++) forge(x, 2, i, 1, 0);
    // a shorter one does not keep what stood further on
    sheet(x, 1, 1, 5, 6, 7);
    x.sheet(1, 1, 1);
    x.sheet(1, 1, 3);
    for (int i = 0; i < 3; i++) forge(x, 2, i, 1, 0);
    // nor does a missing one
    sheet(x, 1, 1, 5, 6, 7);
    x.sheet(1, -1, 0);
    x.sheet(1, 1, 3);
    for (int i = 0; i < 3; i++) forge(x, 2, i, 1, 0);
  }

  private static void missingWhateverNIs() {
    GamesOffice x = new GamesOffice();
    for (int n : new int[] {0, 40, -1, 41, LEAST, GREATEST}) {
      sheet(x, 2, 1, 8);
      forge(x, 2, 0, 2, 8);
      due.done("sheet(2, -1, " + n + ")", x, x.sheet(2, -1, n), 1);
      forgeRefused(x, 2, 0, 2, 10);
      due.done("sheet(2, -1, " + n + ") again", x, x.sheet(2, -1, n), 1);
    }
    due.refused("sheet(4, -1, 0)", x, x.sheet(4, -1, 0), 1);
    due.refused("sheet(-1, -1, 0)", x, x.sheet(-1, -1, 0), 1);
  }

  private static void cellsAreFromMinus2000To2000() {
    for (int sort = 0; sort <= 2; sort++) {
      GamesOffice x = new GamesOffice();
      sheet(x, 0, sort, 3, 4);
      for (int v : new int[] {-2001, 2001, LEAST, GREATEST}) due.refused("cell(0, 1, " + v + ")", x, x.cell(0, 1, v), 1);
      if (sort == 1) forge(x, 2, 1, 0, 4);
      if (sort == 0) forge(x, 3, 1, 0, 4);
      due.done("cell(0, 1, -2000)", x, x.cell(0, 1, -2000), 1);
      due.done("cell(0, 1, 2000)", x, x.cell(0, 1, 2000), 1);
    }
  }

  private static void bytesAreCutToTheirLowest8Bits() {
    GamesOffice x = null;
    for (int v = -2000; v <= 2000; v++) {
      if (v % 100 == 0) {
        x = new GamesOffice();
        x.sheet(0, 0, 2);
      }
      int lowest = v & 255;
      due.done("cell(0, 1, " + v + ")", x, x.cell(0, 1, v), 1);
      forge(x, 3, 1, 0, lowest < 128 ? lowest : lowest - 256);
    }
  }

  private static void shortsAndIntsAreNotCut() {
    GamesOffice x = new GamesOffice();
    x.sheet(0, 1, 40);
    for (int i = 0; i < 40; i++) x.cell(0, i, i < 20 ? -2000 + i : 1961 + i);
    for (int i = 0; i < 40; i++) forge(x, 2, i, 0, i < 20 ? -2000 + i : 1961 + i);
    // ints are seen by the PASS that they tell alone
    x.person(0);
    sheet(x, 1, 2, 0, 0, 1919, 0);
    due.done("row(1, 2, 0)", x, x.row(1, 2, 0), 0);
    due.is("passTold(0, 2)", x.passTold(0, 2), 19);
    sheet(x, 1, 1, 0, 0, 1819, 0);
    due.done("row(1, 1, 0)", x, x.row(1, 1, 0), 1);
    due.is("passTold(1, 2)", x.passTold(1, 2), 18);
    // 1819 & 255 is 27
    sheet(x, 1, 0, 0, 0, 1819, 0);
    due.refused("row(1, 0, 0)", x, x.row(1, 0, 0), 3);
  }

  private static void rowIsFromPlaceOn() {
    for (int sort = 0; sort <= 2; sort++) {
      GamesOffice x = kinds(0, 0);
      x.sheet(0, sort, 40);
      for (int i : new int[] {-1, 37, 38, 39, 40, LEAST, GREATEST, GREATEST - 1, GREATEST - 2, GREATEST - 3}) {
        due.refused("row(0, " + sort + ", " + i + ")", x, x.row(0, sort, i), 12);
      }
      x.cell(0, 39, 7);
      due.done("the last place", x, x.row(0, sort, 36), 6);
      due.is("passTold(6, 4)", x.passTold(6, 4), 7);
      due.done("the first place", x, x.row(0, sort, 0), 7);
      x.sheet(0, sort, 4);
      due.done("just four numbers", x, x.row(0, sort, 0), 8);
      due.refused("place 1 of four", x, x.row(0, sort, 1), 12);
      x.sheet(0, sort, 3);
      due.refused("three numbers", x, x.row(0, sort, 0), 12);
      x.sheet(0, sort, 0);
      due.refused("no numbers", x, x.row(0, sort, 0), 12);
    }
  }

  private static void rowTellsAPassAsPassDoes() {
    GamesOffice x = new GamesOffice();
    x.person(0);
    x.person(0);
    int[][] none = {{-1, 0, 0, 0}, {2, 0, 0, 0}, {0, -1, 0, 0}, {0, 6, 0, 0}, {0, 0, -1, 0}, {0, 0, 20, 0}, {0, 0, 504, 0}, {0, 0, 1920, 0},
        {0, 0, 0, -1}, {0, 0, 0, 12}, {0, 2, 0, 2}, {0, 2, 0, 11}};
    for (int[] p : none) {
      sheet(x, 3, 2, p);
      due.refused("row of " + p[0] + ", " + p[1] + ", " + p[2] + ", " + p[3], x, x.row(3, 2, 0), 3);
    }
    int[][] passes = {{0, 0, 0, 0}, {1, 5, 1919, 11}, {1, 2, 19, 1}, {0, 4, 505, 11}};
    for (int i = 0; i < passes.length; i++) {
      sheet(x, 3, 2, passes[i]);
      due.done("row " + i, x, x.row(3, 2, 0), i);
      int[] p = passes[i];
      int[] told = {p[0], p[1], p[2] / 100, p[2] % 100, p[3], -1};
      for (int what = 0; what < 6; what++) due.is("passTold(" + i + ", " + what + ")", x.passTold(i, what), told[what]);
    }
    due.is("personTold(1, 2)", x.personTold(1, 2), 2);
    for (int i = 4; i < 20; i++) due.done("row " + i, x, x.row(3, 2, 0), i);
    due.refused("a 21st pass", x, x.row(3, 2, 0), 2);
  }

  /** 1, 2, 10, 11, 12, 3: of those that hold the one that comes first here. */
  private static void rowRefusesInThisOrder() {
    GamesOffice x = kinds(0, 0);
    x.sheet(0, 0, 4);
    x.cell(0, 1, 6);
    due.refused("no such sheet, a place outside", x, x.row(4, 0, 9), 1);
    due.refused("no such sort, a missing sheet", x, x.row(1, 3, 0), 1);
    due.refused("no such sort, a place outside", x, x.row(0, -1, 9), 1);
    due.refused("missing, a place outside", x, x.row(1, 0, 9), 10);
    due.refused("another sort, a place outside", x, x.row(0, 1, 9), 11);
    due.refused("another sort, numbers that tell none", x, x.row(0, 1, 0), 11);
    due.refused("a place outside", x, x.row(0, 0, 1), 12);
    due.refused("numbers that tell none", x, x.row(0, 0, 0), 3);
    for (int i = 6; i < 20; i++) x.pass(0, 0, 0, 0);
    due.refused("no room, no such sheet", x, x.row(-1, 0, 0), 1);
    due.refused("no room, no such sort", x, x.row(0, 3, 0), 1);
    due.refused("no room, missing", x, x.row(1, 0, 0), 2);
    due.refused("no room, another sort", x, x.row(0, 1, 0), 2);
    due.refused("no room, a place outside", x, x.row(0, 0, 1), 2);
    due.refused("no room, numbers that tell none", x, x.row(0, 0, 0), 2);
  }

  private static void forgeTakesMinus100To100() {
    GamesOffice x = kinds(0, 0);
    for (int what = 0; what <= 6; what++) {
      for (int n : new int[] {-101, 101, LEAST, GREATEST}) {
        forgeRefused(x, what, n, 0, 1);
        forgeRefused(x, what, 1, n, 1);
      }
    }
    for (int what : new int[] {-1, 7, LEAST, GREATEST}) forgeRefused(x, what, 1, 0, 1);
    for (int k : new int[] {-100, 100}) {
      // PASS 0, and SHEET 0, which is missing
      forge(x, 0, 0, k, 0);
      forge(x, 1, 100, k, 100);
      forgeRefused(x, 1, -100, k, 13);
      forgeRefused(x, 2, 100, k, 10);
      forgeRefused(x, 3, -100, k, 10);
      forgeRefused(x, 4, -100, k, 14);
      forge(x, 5, 100, k, 10);
      forge(x, 5, -100, k, -10);
      forgeRefused(x, 6, -100, k, 10);
      forge(x, 6, 99, k, 1);
    }
  }

  private static void moduloIsNeverBelow0() {
    for (int from = -100; from <= 100; from += 67) {
      GamesOffice x = new GamesOffice();
      x.person(0);
      for (int i = 0; i < 20; i++) x.pass(0, i == 3 ? 4 : 3, 0, 0);
      for (int k = from; k < from + 67; k++) forge(x, 4, 0, k, (k + 100) % 20 == 3 ? 4 : 3);
    }
    for (int from = -100; from <= 100; from += 67) {
      GamesOffice x = new GamesOffice();
      for (int sheet = 0; sheet < 4; sheet++) sheet(x, sheet, 1, 70 + sheet);
      for (int k = from; k < from + 67; k++) forge(x, 2, 0, k, 70 + (k + 100) % 4);
    }
  }

  private static void kindsModulo6() {
    int[][] isOf = {{0}, {1, 0}, {2, 0}, {3, 0}, {4, 3, 0}, {5, 1, 0}};
    for (int pass = 0; pass < 6; pass++) {
      for (int from = -100; from <= 100; from += 67) {
        GamesOffice x = kinds(0, 0);
        for (int n = from; n < from + 67; n++) {
          boolean fits = false;
          for (int kind : isOf[pass]) fits |= kind == (n + 102) % 6;
          if (fits) forge(x, 0, n, pass, pass);
          else forgeRefused(x, 0, n, pass, 11);
        }
      }
    }
    GamesOffice x = kinds(0, 0);
    forge(x, 0, 0, 5, 5);
    forgeRefused(x, 0, 0, 6, 10);
    forgeRefused(x, 0, 0, 19, 10);
    forgeRefused(x, 0, 5, -1, 10);
    forge(x, 0, 0, 20, 0);
  }

  private static void rowsOfNNumbers() {
    GamesOffice x = new GamesOffice();
    for (int n = 0; n <= 100; n++) forge(x, 1, n, 0, n);
    for (int n = -100; n < 0; n++) forgeRefused(x, 1, n, 0, 13);
  }

  private static void numbersOfShorts() {
    GamesOffice x = new GamesOffice();
    forgeRefused(x, 2, 0, 0, 10);
    forgeRefused(x, 2, -1, 0, 10);
    sheet(x, 0, 1, 300, -300);
    forge(x, 2, 0, 0, 300);
    forge(x, 2, 1, 0, -300);
    for (int n : new int[] {-1, 2, -100, 100}) forgeRefused(x, 2, n, 0, 12);
    sheet(x, 0, 1);
    forgeRefused(x, 2, 0, 0, 12);
    for (int sort : new int[] {0, 2}) {
      sheet(x, 0, sort, 3);
      forgeRefused(x, 2, 0, 0, 11);
      forgeRefused(x, 2, 1, 0, 11);
      forgeRefused(x, 2, -1, 0, 11);
    }
  }

  /** By how many numbers the SHEET has: n from its number 1 on must stand there, and n from place n on in a row of 6. */
  private static void bytesIntoARowOf6() {
    for (int many = 0; many <= 8; many++) {
      GamesOffice x = new GamesOffice();
      x.sheet(2, 0, many);
      for (int i = 0; i < many; i++) x.cell(2, i, 1 << i % 7);
      int[] sums = {0, 2, 2 + 4, 2 + 4 + 8};
      for (int n = -100; n <= 100; n++) {
        boolean stands = n >= 0 && n <= 3 && 1 + n <= many;
        if (stands) forge(x, 3, n, 2, sums[n]);
        else forgeRefused(x, 3, n, 2, 12);
      }
    }
    GamesOffice x = new GamesOffice();
    sheet(x, 2, 0, 1, -128, -128, -128);
    forge(x, 3, 3, 2, -384);
    for (int sort = 1; sort <= 2; sort++) {
      sheet(x, 2, sort, 1, 2, 3, 4);
      for (int n : new int[] {0, 1, -1, 100}) forgeRefused(x, 3, n, 2, 11);
    }
    x.sheet(2, -1, 0);
    for (int n : new int[] {0, 1, -1, 100}) forgeRefused(x, 3, n, 2, 10);
  }

  private static void dayOnesAndUpgradesFit() {
    GamesOffice x = kinds(0, 0);
    for (int k : new int[] {0, 1, 2, 5}) forgeRefused(x, 4, 0, k, 14);
    for (int k : new int[] {3, 4}) forge(x, 4, 0, k, k);
    for (int k = 6; k < 20; k++) forge(x, 4, 0, k, 0);
    forge(x, 4, 0, -1, 0);
    forge(x, 4, 0, -16, 4);
    forge(new GamesOffice(), 4, 0, 0, 0);
  }

  private static void thousandDivided() {
    GamesOffice x = new GamesOffice();
    for (int n = 1; n <= 100; n++) {
      int times = 0;
      while ((times + 1) * n <= 1000) times++;
      forge(x, 5, n, 0, times);
      forge(x, 5, -n, 0, -times);
    }
    forgeRefused(x, 5, 0, 0, 15);
  }

  private static void failuresThrown() {
    GamesOffice x = new GamesOffice();
    for (int n = -100; n <= 100; n++) {
      if ((n & 1) == 0) forgeRefused(x, 6, n, 0, 10);
      else forge(x, 6, n, 0, 1);
    }
  }

  private static void imageInPlaceOfOneBefore() {
    GamesOffice x = new GamesOffice();
    due.refused("back() without one", x, x.back(), 3);
    due.done("image()", x, x.image(), 1);
    x.person(0);
    due.done("image() again", x, x.image(), 1);
    x.person(0);
    due.done("back()", x, x.back(), 0);
    due.is("count(0)", x.count(0), 1);
    // an IMAGE of what was gone back to
    x.clock(4);
    x.image();
    x.clock(4);
    due.done("back() to 4", x, x.back(), 4);
    due.done("back() to 4 again", x, x.back(), 4);
    // going back changes neither STATUS of a question nor the SHEETS
    sheet(x, 0, 1, 5);
    x.back();
    forge(x, 2, 0, 0, 5);
  }

  private static void backTenTimes() {
    GamesOffice x = new GamesOffice();
    for (int i = 0; i < 12; i++) due.refused("back() without an image", x, x.back(), 3);
    x.clock(1);
    x.image();
    for (int i = 0; i < 10; i++) {
      x.clock(1);
      due.done("back() " + i, x, x.back(), 1);
    }
    x.clock(1);
    due.refused("back() for the 11th time", x, x.back(), 2);
    due.is("count(5)", x.count(5), 2);
    x.image();
    due.refused("back() to a new image", x, x.back(), 2);
    due.done("image() goes on", x, x.image(), 1);
  }

  private static void statusIsOfTheLatestCallThatIsNoQuestion() {
    GamesOffice x = kinds(0, 0);
    due.is("status() of a new object", new GamesOffice().status(), 0);
    forgeRefused(x, 5, 0, 0, 15);
    due.asked("count(0)", x, () -> x.count(0), 12);
    due.asked("count(99)", x, () -> x.count(99), -1);
    due.is("status()", x.status(), 15);
    due.is("status() again", x.status(), 15);
    x.act(0, 0, -1);
    due.is("status() behind an act that answers -1", x.status(), 0);
    x.zone(0);
    x.door(-1, 0);
    due.refused("go(0, 0, 0)", x, x.go(0, 0, 0), 23);
    due.asked("may(0, 0, 0)", x, () -> x.may(0, 0, 0), 3);
    due.is("status()", x.status(), 23);
  }

  /** The 512th call is answered as is due, whatever came ahead of it. */
  private static void all512Calls() {
    GamesOffice x = new GamesOffice();
    int calls = 0;
    for (int i = 0; i < 12; i++, calls++) x.person(i % 8);
    for (int i = 0; i < 6; i++, calls++) x.unit(0, 10, 0, -1, false);
    for (; calls < 400; calls++) x.clock(1);
    for (int unit = 0; calls < 500; calls++, unit = (unit + 1) % 6) due.is("begins(" + unit + ")", x.begins(unit), 360 + 10 * unit);
    for (; calls < 508; calls++) x.person(0);
    due.is("status(), the 509th call", x.status(), 2);
    due.is("clock(1), the 510th call", x.clock(1), 383);
    due.is("image(), the 511th call", x.image(), 1);
    due.is("back(), the 512th call", x.back(), 383);
  }
}
