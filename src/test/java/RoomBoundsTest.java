/** The boundary cases of "Terms" 4, a sentence by a test: ROOMS, GROUPS, THE ROOMING, RESULTS, medals, THE TABLE. */
public final class RoomBoundsTest {
  private static final Due due = new Due("RoomBoundsTest");
  private static final int NONE = -1;

  public static void main(String[] args) {
    bedsAre1To9();
    groupsAre1To9();
    groupsAreOfNations0To7();
    bothDaysOfGroupsCount();
    nothingIsUsed();
    noMorePersonsThanBeds();
    bedsAreFreeOnTheNextDay();
    notOfTwoNationsOnADay();
    oneNationMayShareARoom();
    eachToOneRoomAtMost();
    mostBedsByDays();
    likeOnesByTheLeastRoom();
    noRoomComesBehindAll();
    fullTablesOfRoomsAndGroups();
    backChangesTheRooming();
    resultsAreRowsOf1To5();
    resultsAreOfPersons();
    everyRowOfThreePersons();
    strippedCountsForNothing();
    allAreStripped();
    strippedOfOneResultAlone();
    placesFrom0();
    medalsOfTheFirstThree();
    tableWithoutMedals();
    tableByGoldThenSilverThenBronze();
    tableByTheLesserNumber();
    due.end();
  }

  private static void rooming(GamesOffice x, int worth, int... rooms) {
    due.asked("rooming(-1)", x, () -> x.rooming(-1), worth);
    for (int i = 0; i < rooms.length; i++) {
      int group = i;
      due.asked("rooming(" + i + ")", x, () -> x.rooming(group), rooms[i]);
    }
    due.asked("rooming behind the last group", x, () -> x.rooming(rooms.length), NONE);
  }

  private static GamesOffice withRooms(int... beds) {
    GamesOffice x = new GamesOffice();
    for (int b : beds) x.room(b);
    return x;
  }

  private static GamesOffice withPersons(int... nations) {
    GamesOffice x = new GamesOffice();
    for (int nation : nations) x.person(nation);
    return x;
  }

  private static int row(int... persons) {
    int row = 0;
    for (int i = persons.length - 1; i >= 0; i--) row = row * 13 + persons[i] + 1;
    return row;
  }

  private static void places(GamesOffice x, int result, int... want) {
    for (int i = -1; i <= 5; i++) {
      int place = i;
      int person = i >= 0 && i < want.length ? want[i] : NONE;
      due.asked("placed(" + result + ", " + i + ")", x, () -> x.placed(result, place), person);
    }
  }

  private static void medals(GamesOffice x, int nation, int... want) {
    for (int i = 0; i < want.length; i++) {
      int what = i;
      due.asked("medals(" + nation + ", " + i + ")", x, () -> x.medals(nation, what), want[i]);
    }
  }

  /** The NATIONS of THE TABLE from its first place on. */
  private static void table(GamesOffice x, int... nations) {
    for (int place = 0; place < nations.length; place++) {
      int nation = nations[place];
      due.asked("medals(" + nation + ", 3)", x, () -> x.medals(nation, 3), place);
    }
  }

  private static void bedsAre1To9() {
    GamesOffice x = new GamesOffice();
    due.refused("room(0)", x, x.room(0), 1);
    due.refused("room(10)", x, x.room(10), 1);
    due.done("room(1)", x, x.room(1), 0);
    due.done("room(9)", x, x.room(9), 1);
    x.group(0, 9, 0);
    x.group(1, 1, 0);
    rooming(x, 10, 1, 0);
  }

  private static void groupsAre1To9() {
    GamesOffice x = withRooms(9);
    due.refused("a group of 0", x, x.group(0, 0, 0), 1);
    due.refused("a group of 10", x, x.group(0, 10, 0), 1);
    due.done("a group of 1", x, x.group(0, 1, 0), 0);
    rooming(x, 1, 0);
    due.done("a group of 9", x, x.group(0, 9, 0), 1);
    rooming(x, 9, NONE, 0);
  }

  private static void groupsAreOfNations0To7() {
    GamesOffice x = withRooms(1, 1);
    due.refused("nation -1", x, x.group(-1, 1, 0), 1);
    due.refused("nation 8", x, x.group(8, 1, 0), 1);
    due.done("nation 0", x, x.group(0, 1, 0), 0);
    due.done("nation 7", x, x.group(7, 1, 0), 1);
    rooming(x, 2, 0, 1);
  }

  private static void bothDaysOfGroupsCount() {
    GamesOffice x = withRooms(1);
    due.refused("a last day ahead of the first one", x, x.group(0, 1, 504), 1);
    due.refused("day 20", x, x.group(0, 1, 20), 1);
    due.refused("from day 20", x, x.group(0, 1, 2020), 1);
    due.done("one day", x, x.group(0, 1, 505), 0);
    rooming(x, 1, 0);
    due.done("the first day", x, x.group(0, 1, 0), 1);
    rooming(x, 2, 0, 0);
    due.done("the last day", x, x.group(0, 1, 1919), 2);
    rooming(x, 3, 0, 0, 0);
    due.done("three days", x, x.group(0, 1, 608), 3);
    rooming(x, 6, 0, 0, 0, 0);
    due.done("all days", x, x.group(0, 1, 19), 4);
    rooming(x, 20, NONE, NONE, NONE, NONE, 0);
  }

  private static void nothingIsUsed() {
    rooming(new GamesOffice(), 0);
    rooming(withRooms(9, 9, 9, 9), 0);
    GamesOffice x = new GamesOffice();
    x.group(0, 9, 19);
    rooming(x, 0, NONE);
    x.room(8);
    rooming(x, 0, NONE);
    x.room(9);
    rooming(x, 180, 1);
  }

  private static void noMorePersonsThanBeds() {
    GamesOffice x = withRooms(5);
    x.group(0, 3, 109);
    x.group(0, 2, 404);
    rooming(x, 29, 0, 0);
    GamesOffice more = withRooms(5);
    more.group(0, 3, 109);
    more.group(0, 3, 404);
    rooming(more, 27, 0, NONE);
    // one day is too many: of four days there is one with 6
    GamesOffice one = withRooms(5);
    one.group(0, 2, 3);
    one.group(0, 2, 306);
    one.group(0, 2, 303);
    rooming(one, 16, 0, 0, NONE);
  }

  private static void bedsAreFreeOnTheNextDay() {
    GamesOffice x = withRooms(4);
    x.group(0, 4, 5);
    x.group(0, 4, 610);
    rooming(x, 24 + 20, 0, 0);
    GamesOffice same = withRooms(4);
    same.group(0, 4, 5);
    same.group(0, 4, 510);
    rooming(same, 24, 0, NONE);
    GamesOffice two = withRooms(4);
    two.group(0, 4, 5);
    two.group(1, 4, 610);
    rooming(two, 44, 0, 0);
  }

  private static void notOfTwoNationsOnADay() {
    GamesOffice x = withRooms(9);
    x.group(3, 1, 510);
    x.group(4, 1, 1019);
    // day 10 is of both
    rooming(x, 10, NONE, 0);
    x.room(1);
    rooming(x, 16, 0, 1);
    GamesOffice next = withRooms(9);
    next.group(3, 1, 510);
    next.group(4, 1, 1119);
    rooming(next, 15, 0, 0);
  }

  private static void oneNationMayShareARoom() {
    GamesOffice x = withRooms(9);
    for (int i = 0; i < 4; i++) x.group(6, 2, 0);
    rooming(x, 8, 0, 0, 0, 0);
    x.group(6, 1, 0);
    rooming(x, 9, 0, 0, 0, 0, 0);
    x.group(6, 1, 0);
    rooming(x, 9, 0, 0, 0, 0, 0, NONE);
  }

  /** Two ROOMS of 2 are not one of 4. */
  private static void eachToOneRoomAtMost() {
    GamesOffice x = withRooms(2, 2);
    x.group(0, 3, 0);
    rooming(x, 0, NONE);
    x.group(0, 2, 0);
    rooming(x, 2, NONE, 0);
  }

  private static void mostBedsByDays() {
    // many days outweigh many persons
    GamesOffice x = withRooms(9);
    x.group(0, 9, 0);
    x.group(1, 1, 9);
    rooming(x, 10, NONE, 0);
    x.group(0, 1, 101);
    // like ones: 9 and 1 are no more than 10, but GROUP 0 has a ROOM
    rooming(x, 10, 0, NONE, 0);
    x.group(0, 1, 202);
    rooming(x, 11, 0, NONE, 0, 0);
  }

  private static void likeOnesByTheLeastRoom() {
    GamesOffice x = withRooms(3, 3, 3, 3);
    x.group(0, 3, 0);
    x.group(1, 3, 0);
    x.group(2, 3, 0);
    x.group(3, 3, 0);
    rooming(x, 12, 0, 1, 2, 3);
    // GROUP 0 has the least ROOM, though GROUP 1 would have it else
    GamesOffice fits = withRooms(1, 2);
    fits.group(0, 1, 0);
    fits.group(1, 1, 0);
    rooming(fits, 2, 0, 1);
    fits.group(0, 1, 0);
    rooming(fits, 3, 1, 0, 1);
  }

  private static void noRoomComesBehindAll() {
    GamesOffice x = withRooms(1);
    for (int i = 0; i < 6; i++) x.group(i, 1, 0);
    rooming(x, 1, 0, NONE, NONE, NONE, NONE, NONE);
    // GROUP 1 alone is like GROUPS 0 and 2 together: GROUP 0 has a ROOM
    GamesOffice y = withRooms(4);
    y.group(0, 1, 0);
    y.group(0, 4, 0);
    y.group(0, 3, 0);
    rooming(y, 4, 0, NONE, 0);
    // the last ROOM comes ahead of none
    GamesOffice z = withRooms(1, 1, 1, 2);
    z.group(0, 2, 0);
    z.group(1, 2, 0);
    rooming(z, 2, 3, NONE);
  }

  private static void fullTablesOfRoomsAndGroups() {
    GamesOffice x = new GamesOffice();
    for (int i = 0; i < 4; i++) due.done("room " + i, x, x.room(2), i);
    due.refused("a 5th room", x, x.room(2), 2);
    for (int i = 0; i < 6; i++) due.done("group " + i, x, x.group(i, 2, 19), i);
    due.refused("a 7th group", x, x.group(0, 2, 19), 2);
    rooming(x, 160, 0, 1, 2, 3, NONE, NONE);
  }

  private static void backChangesTheRooming() {
    GamesOffice x = withRooms(2);
    x.group(0, 1, 0);
    x.group(0, 2, 0);
    x.image();
    x.group(1, 1, 19);
    x.group(0, 1, 0);
    x.room(9);
    rooming(x, 24, 1, 1, 0, 1);
    x.back();
    // one of like ones: what was there is not counted any more
    rooming(x, 2, NONE, 0);
    x.group(0, 1, 0);
    rooming(x, 2, 0, NONE, 0);
    x.back();
    rooming(x, 2, NONE, 0);
    due.done("the next room", x, x.room(1), 1);
    rooming(x, 3, 1, 0);
    // GROUPS 0 and 1, of which just one fits
    GamesOffice y = withRooms(2);
    y.group(0, 2, 0);
    y.group(0, 2, 0);
    y.image();
    for (int i = 0; i < 4; i++) y.group(1, 9, 19);
    rooming(y, 2, 0, NONE, NONE, NONE, NONE, NONE);
    y.back();
    rooming(y, 2, 0, NONE);
  }

  private static void resultsAreRowsOf1To5() {
    GamesOffice x = withPersons(0, 1, 2, 3, 4, 5);
    due.refused("an empty row", x, x.result(0), 1);
    due.refused("more than five", x, x.result(row(0, 1, 2, 3, 4, 5)), 1);
    due.refused("the least row of more than five", x, x.result(371293), 1);
    due.refused("a digit 0 below another one", x, x.result(13 * 1), 1);
    due.refused("a digit 0 between two", x, x.result(1 + 169 * 2), 1);
    due.refused("a row below 0", x, x.result(-row(0)), 1);
    due.refused("the least number", x, x.result(Integer.MIN_VALUE), 1);
    due.refused("the greatest number", x, x.result(Integer.MAX_VALUE), 1);
    due.done("one", x, x.result(row(0)), 0);
    due.done("two", x, x.result(row(5, 0)), 1);
    due.done("five", x, x.result(row(5, 4, 3, 2, 1)), 2);
    places(x, 0, 0);
    places(x, 1, 5, 0);
    places(x, 2, 5, 4, 3, 2, 1);
    for (int i = 3; i < 10; i++) due.done("result " + i, x, x.result(row(0)), i);
    due.refused("an 11th result", x, x.result(row(0)), 2);
  }

  private static void resultsAreOfPersons() {
    GamesOffice x = new GamesOffice();
    due.refused("person 0, that is not there", x, x.result(row(0)), 1);
    x.person(0);
    due.done("person 0", x, x.result(row(0)), 0);
    due.refused("person 1, that is not there", x, x.result(row(1)), 1);
    due.refused("person 1 behind person 0", x, x.result(row(0, 1)), 1);
    due.refused("person 0 twice", x, x.result(row(0, 0)), 1);
    for (int i = 1; i < 12; i++) x.person(0);
    due.done("person 11", x, x.result(row(11)), 1);
    due.refused("person 11 twice", x, x.result(row(11, 3, 11)), 1);
    due.done("the greatest row", x, x.result(row(7, 8, 9, 10, 11)), 2);
    due.refused("a digit of 12 and one more above it", x, x.result(row(7, 8, 9, 10, 11) + 1), 1);
    places(x, 2, 7, 8, 9, 10, 11);
  }

  /** Of all numbers just those are rows that name PERSONS once each without a hole. */
  private static void everyRowOfThreePersons() {
    int rows = 0;
    GamesOffice x = null;
    for (int row = -40; row < 371293 + 4000; row++) {
      // fewer than 512 calls an object, and fewer than 10 results
      if (row % 200 == 0 || x == null || x.count(9) > 8) x = withPersons(0, 0, 0);
      if (x.result(row) != NONE) rows++;
    }
    due.is("how many rows of three persons there are", rows, 3 + 6 + 6);
  }

  private static void strippedCountsForNothing() {
    GamesOffice x = withPersons(0, 1, 2, 3, 4);
    x.result(row(0, 1, 2, 3, 4));
    due.done("the second one", x, x.strip(0, 1), 1);
    places(x, 0, 0, 2, 3, 4);
    medals(x, 2, 0, 1, 0, 1);
    medals(x, 3, 0, 0, 1, 2);
    medals(x, 1, 0, 0, 0, 3);
    due.done("the first one", x, x.strip(0, 0), 0);
    places(x, 0, 2, 3, 4);
    medals(x, 2, 1, 0, 0, 0);
    medals(x, 4, 0, 0, 1, 2);
    due.done("the last one, that is third now", x, x.strip(0, 4), 2);
    places(x, 0, 2, 3);
    due.refused("the first one again", x, x.strip(0, 0), 3);
    due.refused("the second one again", x, x.strip(0, 1), 3);
  }

  private static void allAreStripped() {
    GamesOffice x = withPersons(3, 4);
    x.result(row(1));
    due.done("the only one", x, x.strip(0, 1), 0);
    places(x, 0);
    medals(x, 4, 0, 0, 0, 4);
    due.refused("the only one again", x, x.strip(0, 1), 3);
    due.refused("one that is not in it", x, x.strip(0, 0), 1);
    due.is("it is a result still", x.count(9), 1);
  }

  private static void strippedOfOneResultAlone() {
    GamesOffice x = withPersons(0, 1);
    for (int i = 0; i < 10; i++) x.result(row(0, 1));
    medals(x, 0, 10, 0, 0, 0);
    medals(x, 1, 0, 10, 0, 1);
    for (int i = 9; i >= 0; i--) {
      due.done("strip(" + i + ", 0)", x, x.strip(i, 0), 0);
      due.is("placed(" + i + ", 0)", x.placed(i, 0), 1);
      due.is("placed(" + i + ", 1)", x.placed(i, 1), NONE);
      if (i > 0) due.is("placed(" + (i - 1) + ", 0)", x.placed(i - 1, 0), 0);
      medals(x, 0, i, 0, 0);
      medals(x, 1, 10 - i, i, 0);
    }
  }

  private static void placesFrom0() {
    GamesOffice x = withPersons(0, 1);
    places(x, 0);
    x.result(row(1, 0));
    places(x, 0, 1, 0);
    places(x, 1);
    places(x, -1);
    due.refused("strip(1, 0)", x, x.strip(1, 0), 1);
    due.refused("strip(-1, 0)", x, x.strip(-1, 0), 1);
    due.refused("strip(0, -1), nobody, of a row with places left", x, x.strip(0, -1), 1);
    due.refused("strip(0, 2), no PERSON", x, x.strip(0, 2), 1);
    due.refused("strip(0, 32), beyond all bits", x, x.strip(0, 32), 1);
    due.refused("strip(0, 33), beyond all bits", x, x.strip(0, 33), 1);
    due.done("strip(0, 0)", x, x.strip(0, 0), 1);
    due.refused("strip(0, 32), which is not 0", x, x.strip(0, 32), 1);
  }

  private static void medalsOfTheFirstThree() {
    GamesOffice x = withPersons(5, 5, 5, 5, 6);
    x.result(row(0, 1, 2, 3, 4));
    medals(x, 5, 1, 1, 1, 0);
    // the fifth one has nothing, like those that are not there
    medals(x, 6, 0, 0, 0, 6);
    x.strip(0, 0);
    x.strip(0, 1);
    medals(x, 5, 1, 1, 0, 0);
    medals(x, 6, 0, 0, 1, 1);
    due.asked("medals(-1, 0)", x, () -> x.medals(-1, 0), NONE);
    due.asked("medals(8, 0)", x, () -> x.medals(8, 0), NONE);
    due.asked("medals(5, -1)", x, () -> x.medals(5, -1), NONE);
    due.asked("medals(5, 4)", x, () -> x.medals(5, 4), NONE);
  }

  private static void tableWithoutMedals() {
    table(new GamesOffice(), 0, 1, 2, 3, 4, 5, 6, 7);
    table(withPersons(7, 6, 5), 0, 1, 2, 3, 4, 5, 6, 7);
  }

  private static void tableByGoldThenSilverThenBronze() {
    // person i is of nation 7 - i
    GamesOffice x = withPersons(7, 6, 5, 4, 3, 2, 1, 0);
    x.result(row(7, 0));
    // one GOLD is more than none, however much SILVER there is
    x.result(row(6, 0));
    x.result(row(5, 0));
    table(x, 0, 1, 2, 7, 3, 4, 5, 6);
    // like GOLD: SILVER counts; 0 and 1 get none
    x.result(row(4, 5, 3));
    table(x, 2, 0, 1, 3, 7, 4, 5, 6);
    // like GOLD and SILVER: BRONZE counts
    x.result(row(4, 0, 6));
    table(x, 3, 2, 1, 0, 7, 4, 5, 6);
    // it moves up: 7 has GOLD now, 1 is like 2 and the lesser
    x.strip(4, 4);
    table(x, 7, 1, 2, 0, 3, 4, 5, 6);
  }

  private static void tableByTheLesserNumber() {
    GamesOffice x = withPersons(6, 3);
    x.result(row(0));
    x.result(row(1));
    table(x, 3, 6, 0, 1, 2, 4, 5, 7);
    x.result(row(0, 1));
    x.result(row(1, 0));
    table(x, 3, 6, 0, 1, 2, 4, 5, 7);
  }
}
