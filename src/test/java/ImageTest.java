/** Promises 17 and 18: what an IMAGE keeps, and going back to it. */
public final class ImageTest {
  private static final Due due = new Due("ImageTest");

  public static void main(String[] args) {
    promise17();
    promise17Again();
    promise18();
    promise18Counted();
    promise18Left();
    promise18StaysApart();
    due.end();
  }

  private static GamesOffice world() {
    GamesOffice x = new GamesOffice();
    x.person(1);
    x.person(2);
    x.zone(2);
    x.door(-1, 0);
    x.door(0, -1);
    x.pass(0, 0, 19, 0);
    x.pass(1, 0, 19, 0);
    x.rule(true, 0, 0, 19, 1439);
    x.go(0, 0, 0);
    x.unit(0, 50, 1, -1, false);
    x.room(2);
    x.group(1, 1, 0);
    x.result(1 + 2 * 13);
    x.clock(7);
    x.seats(2);
    return x;
  }

  /** All that world() made is as it was. */
  private static void isAsMade(GamesOffice x) {
    int[] counts = {2, 1, 2, 2, 1, 7, 1, 1, 1, 1, 1, 2};
    for (int what = 0; what < counts.length; what++) due.is("count(" + what + ")", x.count(what), counts[what]);
    due.is("personTold(0, 1)", x.personTold(0, 1), 0);
    due.is("personTold(0, 2)", x.personTold(0, 2), 1);
    due.is("personTold(0, 3)", x.personTold(0, 3), 1);
    due.is("personTold(1, 1)", x.personTold(1, 1), -2);
    due.is("zoneTold(0, 1)", x.zoneTold(0, 1), 1);
    due.is("zoneTold(0, 2)", x.zoneTold(0, 2), 1);
    due.is("zoneTold(0, 3)", x.zoneTold(0, 3), 0);
    due.is("passTold(0, 5)", x.passTold(0, 5), -1);
    due.is("why(0, 0, 10, 10)", x.why(0, 0, 10, 10), 0);
    due.is("begins(-1)", x.begins(-1), 410);
    due.is("fleet()", x.fleet(), 1);
    due.is("rooming(-1)", x.rooming(-1), 1);
    due.is("rooming(0)", x.rooming(0), 0);
    due.is("placed(0, 0)", x.placed(0, 0), 0);
    due.is("medals(1, 0)", x.medals(1, 0), 1);
  }

  /** Changes something of each sort that an IMAGE keeps. */
  private static void change(GamesOffice x) {
    x.person(3);
    x.zone(1);
    x.door(0, 1);
    x.pass(0, 1, 19, 0);
    x.rule(false, 0, 0, 19, 1439);
    x.end(0);
    x.go(0, 1, 0);
    x.lose(0, 5);
    x.unit(0, 240, 3, -1, false);
    x.room(9);
    x.group(2, 9, 19);
    x.strip(0, 0);
    x.result(2);
    x.clock(1000);
    x.seats(1);
  }

  private static void promise17() {
    GamesOffice x = world();
    due.done("image()", x, x.image(), 1);
    isAsMade(x);
    change(x);
    due.is("count(5) behind the changes", x.count(5), 1007);
    due.is("personTold(0, 1) behind the changes", x.personTold(0, 1), -2);
    due.done("back()", x, x.back(), 7);
    isAsMade(x);
  }

  private static void promise17Again() {
    GamesOffice x = world();
    x.image();
    x.clock(100);
    x.person(5);
    due.done("image() in place of the one before", x, x.image(), 1);
    x.clock(100);
    x.person(6);
    due.done("back()", x, x.back(), 107);
    due.is("count(0)", x.count(0), 3);
  }

  private static void promise18() {
    GamesOffice x = new GamesOffice();
    due.refused("back() without an image", x, x.back(), 3);
    x.image();
    x.person(0);
    x.clock(30);
    due.done("back() to the new object", x, x.back(), 0);
    due.is("count(0)", x.count(0), 0);
    GamesOffice y = world();
    y.image();
    // the image stays: it is gone back to twice
    change(y);
    due.done("back()", y, y.back(), 7);
    change(y);
    due.done("back() again", y, y.back(), 7);
    isAsMade(y);
    due.done("what was there is numbered on", y, y.person(0), 2);
  }

  private static void promise18Counted() {
    GamesOffice x = new GamesOffice();
    // refused ones do not count
    for (int i = 0; i < 3; i++) due.refused("back() without an image", x, x.back(), 3);
    x.image();
    for (int i = 0; i < 5; i++) due.done("back() " + i, x, x.back(), 0);
    // how often it was gone back is not kept by the image, and a new one does not change it
    x.image();
    for (int i = 5; i < 10; i++) due.done("back() " + i, x, x.back(), 0);
    x.clock(9);
    due.refused("back() for the 11th time", x, x.back(), 2);
    due.done("image() still goes", x, x.image(), 1);
    due.refused("back() for the 12th time", x, x.back(), 2);
    due.is("count(5)", x.count(5), 9);
  }

  private static void promise18Left() {
    // SHEETS and THE TRACE are left as they are
    GamesOffice x = world();
    x.sheet(0, 1, 2);
    x.cell(0, 0, 5);
    x.act(0, 0, 1);
    x.image();
    x.sheet(1, 1, 3);
    x.cell(0, 0, 6);
    x.act(0, 3, 1);
    x.back();
    due.is("count(12)", x.count(12), 4);
    due.is("trace(0)", x.trace(0), 13);
    due.done("the number of a sheet", x, x.forge(2, 0, 0), 6);
    due.done("the new sheet", x, x.forge(2, 2, 1), 0);
    x.sheet(0, -1, 0);
    x.back();
    due.refused("the missing sheet", x, x.forge(2, 0, 0), 10);
  }

  private static void promise18StaysApart() {
    // what is changed behind going back does not change the image, and two objects have nothing in common
    GamesOffice x = world();
    GamesOffice y = new GamesOffice();
    x.image();
    due.refused("back() of another object", y, y.back(), 3);
    x.back();
    x.strip(0, 1);
    x.go(1, 0, 1);
    x.end(0);
    x.lose(1, 0);
    x.back();
    isAsMade(x);
    due.is("count(0) of another object", y.count(0), 0);
    due.is("begins(-1) of another object", y.begins(-1), 0);
  }
}
