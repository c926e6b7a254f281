/** Promises 15, 16, 30 and 31: RESULTS, STRIPPED ones, medals and THE TABLE. */
public final class MedalsTest {
  private static final Due due = new Due("MedalsTest");
  private static final int LEAST = Integer.MIN_VALUE;
  private static final int GREATEST = Integer.MAX_VALUE;

  public static void main(String[] args) {
    promise15();
    promise15Persons();
    promise16();
    promise30();
    promise31();
    promise31Table();
    promise31Stripped();
    due.end();
  }

  private static GamesOffice withPersons(int... nations) {
    GamesOffice x = new GamesOffice();
    for (int nation : nations) x.person(nation);
    return x;
  }

  /** A row of a result as result() takes it, the best first. */
  private static int row(int... persons) {
    int row = 0;
    for (int i = persons.length - 1; i >= 0; i--) row = row * 13 + persons[i] + 1;
    return row;
  }

  private static void places(GamesOffice x, int result, int... want) {
    for (int i = 0; i <= 5; i++) {
      int place = i;
      due.asked("placed(" + result + ", " + i + ")", x, () -> x.placed(result, place), i < want.length ? want[i] : -1);
    }
  }

  private static void medals(GamesOffice x, int nation, int gold, int silver, int bronze, int place) {
    int[] want = {gold, silver, bronze, place};
    for (int i = 0; i < 4; i++) {
      int what = i;
      due.asked("medals(" + nation + ", " + i + ")", x, () -> x.medals(nation, what), want[i]);
    }
  }

  private static void promise15() {
    GamesOffice x = withPersons(0, 1, 2, 3, 4, 5);
    int[] wrong = {0, -1, LEAST, GREATEST, row(6), row(11), row(0, 6), row(6, 0), row(0, 0), row(2, 1, 2), row(0, 1, 2, 3, 0),
        13, 13 + 169, 1 + 169, 1 + 2 * 13 + 4 * 2197, row(0, 1, 2, 3, 4, 5), 371293, row(0, 1, 2, 3, 4) + 371293};
    for (int row : wrong) due.refused("result(" + row + ")", x, x.result(row), 1);
    due.is("count(9)", x.count(9), 0);
    due.done("one person", x, x.result(row(0)), 0);
    due.done("five persons", x, x.result(row(5, 4, 3, 2, 1)), 1);
    for (int i = 2; i < 10; i++) due.done("result " + i, x, x.result(row(i % 6)), i);
    due.refused("an 11th result", x, x.result(row(0)), 2);
    due.refused("a wrong result without room", x, x.result(0), 1);
    due.is("count(9)", x.count(9), 10);
    places(x, 0, 0);
    places(x, 1, 5, 4, 3, 2, 1);
  }

  private static void promise15Persons() {
    GamesOffice x = new GamesOffice();
    due.refused("a result without persons", x, x.result(1), 1);
    for (int i = 0; i < 12; i++) x.person(0);
    due.done("the greatest row", x, x.result(row(7, 8, 9, 10, 11)), 0);
    places(x, 0, 7, 8, 9, 10, 11);
  }

  private static void promise16() {
    GamesOffice x = withPersons(0, 1, 2, 3, 4, 5);
    due.refused("strip(0, 0) without results", x, x.strip(0, 0), 1);
    x.result(row(3, 1, 4, 0, 2));
    x.result(row(3));
    int[][] wrong = {{-1, 0}, {2, 0}, {0, 5}, {0, -1}, {0, 6}, {1, 1}, {LEAST, 0}, {0, LEAST}, {0, GREATEST}, {0, 35}, {0, -2}};
    for (int[] s : wrong) due.refused("strip(" + s[0] + ", " + s[1] + ")", x, x.strip(s[0], s[1]), 1);
    due.done("strip(0, 1)", x, x.strip(0, 1), 1);
    due.refused("strip(0, 1) again", x, x.strip(0, 1), 3);
    due.done("strip(0, 0), which moved up", x, x.strip(0, 0), 2);
    due.done("strip(0, 3)", x, x.strip(0, 3), 0);
    due.done("strip(0, 2)", x, x.strip(0, 2), 1);
    due.done("strip(0, 4)", x, x.strip(0, 4), 0);
    due.refused("strip(0, 4) again", x, x.strip(0, 4), 3);
    due.done("strip(1, 3): stripped of that result, too", x, x.strip(1, 3), 0);
    places(x, 0);
    places(x, 1);
  }

  private static void promise30() {
    GamesOffice x = withPersons(0, 1, 2, 3, 4, 5);
    places(x, 0);
    x.result(row(5, 2, 0, 4));
    x.result(row(2, 5));
    places(x, 0, 5, 2, 0, 4);
    x.strip(0, 2);
    places(x, 0, 5, 0, 4);
    places(x, 1, 2, 5);
    x.strip(0, 5);
    places(x, 0, 0, 4);
    int[][] none = {{-1, 0}, {2, 0}, {0, -1}, {0, 2}, {LEAST, 0}, {GREATEST, 0}, {0, LEAST}, {0, GREATEST}};
    for (int[] p : none) due.asked("placed(" + p[0] + ", " + p[1] + ")", x, () -> x.placed(p[0], p[1]), -1);
  }

  private static void promise31() {
    GamesOffice x = withPersons(0, 0, 7, 3, 3);
    medals(x, 0, 0, 0, 0, 0);
    medals(x, 7, 0, 0, 0, 7);
    x.result(row(2, 0, 1, 3, 4));
    medals(x, 7, 1, 0, 0, 0);
    medals(x, 0, 0, 1, 1, 1);
    // the fourth and the fifth one have none
    medals(x, 3, 0, 0, 0, 4);
    medals(x, 1, 0, 0, 0, 2);
    x.result(row(2, 3));
    medals(x, 7, 2, 0, 0, 0);
    medals(x, 3, 0, 1, 0, 2);
    medals(x, 1, 0, 0, 0, 3);
    int[][] none = {{-1, 0}, {8, 0}, {0, -1}, {0, 4}, {LEAST, 0}, {GREATEST, 3}, {0, LEAST}, {0, GREATEST}};
    for (int[] m : none) due.asked("medals(" + m[0] + ", " + m[1] + ")", x, () -> x.medals(m[0], m[1]), -1);
  }

  private static void promise31Table() {
    // nation i is of person i
    GamesOffice x = withPersons(0, 1, 2, 3, 4, 5);
    x.result(row(5, 4, 3));
    x.result(row(5, 4, 2));
    x.result(row(4, 3, 1));
    x.result(row(2, 4, 0));
    x.result(row(1, 2, 4));
    x.result(row(1, 2, 3));
    // gold first, then silver, then bronze, then the lesser number
    medals(x, 5, 2, 0, 0, 1);
    medals(x, 1, 2, 0, 1, 0);
    medals(x, 4, 1, 3, 1, 2);
    medals(x, 2, 1, 2, 1, 3);
    medals(x, 3, 0, 1, 2, 4);
    medals(x, 0, 0, 0, 1, 5);
    medals(x, 6, 0, 0, 0, 6);
    medals(x, 7, 0, 0, 0, 7);
  }

  private static void promise31Stripped() {
    GamesOffice x = withPersons(4, 2, 4, 1);
    x.result(row(0, 1, 2, 3));
    medals(x, 4, 1, 0, 1, 0);
    medals(x, 2, 0, 1, 0, 1);
    medals(x, 1, 0, 0, 0, 3);
    x.strip(0, 0);
    medals(x, 4, 0, 1, 0, 1);
    medals(x, 2, 1, 0, 0, 0);
    medals(x, 1, 0, 0, 1, 2);
    x.image();
    x.strip(0, 1);
    medals(x, 4, 1, 0, 0, 0);
    medals(x, 1, 0, 1, 0, 1);
    medals(x, 2, 0, 0, 0, 3);
    x.back();
    medals(x, 2, 1, 0, 0, 0);
  }
}
