/** Promises 13, 14 and 29: ROOMS, GROUPS and THE ROOMING. */
public final class RoomsTest {
  private static final Due due = new Due("RoomsTest");
  private static final int LEAST = Integer.MIN_VALUE;
  private static final int GREATEST = Integer.MAX_VALUE;

  public static void main(String[] args) {
    promise13();
    promise14();
    promise29();
    promise29Beds();
    promise29Nations();
    promise29Best();
    promise29Like();
    promise29Changes();
    due.end();
  }

  /** THE ROOMING: the BEDS by DAYS, then the ROOM of each GROUP. */
  private static void rooming(GamesOffice x, int worth, int... rooms) {
    due.asked("rooming(-1)", x, () -> x.rooming(-1), worth);
    for (int i = 0; i < rooms.length; i++) {
      int group = i;
      due.asked("rooming(" + i + ")", x, () -> x.rooming(group), rooms[i]);
    }
  }

  private static void promise13() {
    GamesOffice x = new GamesOffice();
    for (int beds : new int[] {0, 10, -1, LEAST, GREATEST}) due.refused("room(" + beds + ")", x, x.room(beds), 1);
    int[] beds = {1, 9, 5, 5};
    for (int i = 0; i < 4; i++) due.done("room(" + beds[i] + ")", x, x.room(beds[i]), i);
    due.refused("a 5th room", x, x.room(1), 2);
    due.refused("room(0) without room", x, x.room(0), 1);
    due.is("count(7)", x.count(7), 4);
  }

  private static void promise14() {
    GamesOffice x = new GamesOffice();
    int[][] wrong = {{-1, 1, 0}, {8, 1, 0}, {0, 0, 0}, {0, 10, 0}, {0, 1, -1}, {0, 1, 20}, {0, 1, 100}, {0, 1, 1918},
        {0, 1, 2020}, {LEAST, 1, 0}, {0, GREATEST, 0}, {0, 1, LEAST}, {0, 1, GREATEST}};
    for (int[] g : wrong) due.refused("group(" + g[0] + ", " + g[1] + ", " + g[2] + ")", x, x.group(g[0], g[1], g[2]), 1);
    int[][] right = {{0, 1, 0}, {7, 9, 1919}, {3, 5, 19}, {3, 5, 712}, {3, 5, 1010}, {0, 1, 1}};
    for (int i = 0; i < 6; i++) due.done("group " + i, x, x.group(right[i][0], right[i][1], right[i][2]), i);
    due.refused("a 7th group", x, x.group(0, 1, 0), 2);
    due.refused("a wrong group without room", x, x.group(0, 0, 0), 1);
    due.is("count(8)", x.count(8), 6);
  }

  private static void promise29() {
    GamesOffice x = new GamesOffice();
    rooming(x, 0, -1);
    x.group(0, 2, 19);
    rooming(x, 0, -1);
    x.room(1);
    rooming(x, 0, -1);
    x.room(2);
    rooming(x, 40, 1);
    for (int group : new int[] {1, -2, 6, LEAST, GREATEST}) due.asked("rooming(" + group + ")", x, () -> x.rooming(group), -1);
  }

  private static void promise29Beds() {
    GamesOffice x = new GamesOffice();
    x.room(3);
    x.group(4, 2, 105);
    x.group(4, 1, 3);
    // 3 of 3 beds on days 1 .. 3
    rooming(x, 10 + 4, 0, 0);
    x.group(4, 1, 506);
    // day 5 is the last one of group 0: there are 3 in it still
    rooming(x, 14 + 2, 0, 0, 0);
    x.group(4, 1, 303);
    // on day 3 it would be a 4th one: it is not worth more than group 1
    rooming(x, 16, 0, 0, 0, -1);
    x.group(4, 2, 604);
    due.is("no last day ahead of the first one", x.count(8), 4);
    x.group(4, 2, 607);
    rooming(x, 16 + 4, 0, 0, 0, -1, 0);
    x.group(4, 1, 606);
    rooming(x, 20, 0, 0, 0, -1, 0, -1);
  }

  private static void promise29Nations() {
    GamesOffice x = new GamesOffice();
    x.room(9);
    x.group(0, 1, 5);
    x.group(1, 2, 509);
    // day 5 is of both
    rooming(x, 10, -1, 0);
    x.group(0, 3, 2);
    rooming(x, 10 + 9, -1, 0, 0);
    x.group(0, 1, 609);
    x.group(0, 1, 1019);
    // 6 + 9 + 4 + 10 without group 1 is like 10 + 9 + 10 with it
    rooming(x, 29, 0, -1, 0, 0, 0);
    x.room(1);
    rooming(x, 29 + 6 + 4, 1, 0, 0, 1, 0);
  }

  private static void promise29Best() {
    // the greater group alone is worth more than the first one
    GamesOffice x = new GamesOffice();
    x.room(5);
    x.group(0, 3, 0);
    x.group(0, 4, 0);
    x.group(0, 2, 0);
    rooming(x, 5, 0, -1, 0);
    x.room(4);
    rooming(x, 9, 0, 1, 0);
  }

  private static void promise29Like() {
    // of like ones group 0 has the least room, then group 1, none behind all
    GamesOffice x = new GamesOffice();
    x.room(2);
    x.room(2);
    x.room(2);
    x.group(0, 2, 0);
    x.group(1, 2, 0);
    rooming(x, 4, 0, 1);
    x.group(2, 2, 0);
    x.group(3, 2, 0);
    rooming(x, 6, 0, 1, 2, -1);
    x.group(3, 2, 101);
    rooming(x, 8, 0, 1, 2, -1, 0);
    GamesOffice few = new GamesOffice();
    few.room(2);
    few.group(0, 1, 0);
    few.group(0, 2, 0);
    few.group(0, 1, 0);
    // 1 and 1 is like 2 alone
    rooming(few, 2, 0, -1, 0);
  }

  private static void promise29Changes() {
    GamesOffice x = new GamesOffice();
    x.room(2);
    x.group(0, 2, 0);
    rooming(x, 2, 0);
    x.image();
    x.group(0, 1, 1);
    x.room(1);
    rooming(x, 2 + 2, 0, 1);
    due.refused("a wrong room", x, x.room(0), 1);
    rooming(x, 4, 0, 1);
    x.back();
    rooming(x, 2, 0, -1);
  }
}
