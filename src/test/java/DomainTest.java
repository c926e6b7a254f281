import java.util.function.IntPredicate;
import java.util.function.Supplier;
import java.util.function.ToIntBiFunction;

/**
 * What is told by one number, by all numbers around its bounds: where a table is full (or what is asked for was done
 * already) a number that is inside leaves another STATUS than 1, and nothing changes.
 */
public final class DomainTest {
  private static final Due due = new Due("DomainTest");
  private static final int CALLS_AN_OBJECT = 180;

  public static void main(String[] args) {
    days();
    minutes();
    nations();
    holds();
    kinds();
    numbersOfPasses();
    places();
    moments();
    momentsAsked();
    steps();
    halls();
    lengths();
    personsOfUnits();
    behinds();
    seats();
    beds();
    groups();
    sheets();
    cells();
    forged();
    due.end();
  }

  /** Each number from least to most leaves STATUS 1 if it is outside, or else the other one. */
  private static void each(String call, Supplier<GamesOffice> make, ToIntBiFunction<GamesOffice, Integer> asked,
      int least, int most, int status, IntPredicate isInside) {
    GamesOffice x = make.get();
    int inside = 0;
    for (int n = least; n <= most; n++) {
      // fewer than 512 calls an object
      if ((n - least) % CALLS_AN_OBJECT == 0) x = make.get();
      int answer = asked.applyAsInt(x, n);
      boolean isIn = isInside.test(n);
      int want = isIn ? status : 1;
      if (isIn) inside++;
      if (x.status() != want || want != 0 && answer != -1) due.is("status() behind " + call + " of " + n, x.status(), want);
    }
    due.is("some of " + call + " are inside, some are not", inside > 0 && inside < most - least + 1 ? 1 : 0, 1);
  }

  /** 100 times the first one, and the last one, both 0 .. 19, the last one not ahead of the first one. */
  private static boolean areDays(int days) {
    for (int first = 0; first <= 19; first++) {
      for (int last = first; last <= 19; last++) if (100 * first + last == days) return true;
    }
    return false;
  }

  private static void days() {
    each("days of pass()", World::full, (x, n) -> x.pass(0, 0, n, 0), -2300, 2300, 2, DomainTest::areDays);
    each("days of rule()", World::full, (x, n) -> x.rule(true, 0, 0, n, 0), -2300, 2300, 2, DomainTest::areDays);
    each("days of group()", World::full, (x, n) -> x.group(0, 1, n), -2300, 2300, 2, DomainTest::areDays);
  }

  private static void minutes() {
    for (int first : new int[] {0, 1, 720, 1438, 1439}) {
      int from = 10000 * first;
      each("minutes of rule()", World::full, (x, n) -> x.rule(true, 0, 0, 0, n), from - 50, from + 10050, 2, n -> {
        int begin = n < from ? first - 1 : n < from + 10000 ? first : first + 1;
        int end = n - 10000 * begin;
        return begin >= 0 && begin <= end && end <= 1439;
      });
    }
    GamesOffice x = World.full();
    for (int last : new int[] {0, 1438, 1439, 1440, 1441, 9999}) {
      due.refused("minutes from 1440", x, x.rule(true, 0, 0, 0, 14400000 + last), 1);
    }
  }

  private static void nations() {
    each("the nation of person()", World::full, (x, n) -> x.person(n), -100, 100, 2, n -> n >= 0 && n <= 7);
    each("the nation of group()", World::full, (x, n) -> x.group(n, 1, 0), -100, 100, 2, n -> n >= 0 && n <= 7);
  }

  private static void holds() {
    each("what a zone holds", World::full, (x, n) -> x.zone(n), -200, 300, 2, n -> n >= 0 && n <= 99);
  }

  private static void kinds() {
    each("the kind of pass()", World::full, (x, n) -> x.pass(0, n, 0, 0), -50, 50, 2, n -> n >= 0 && n <= 5);
    each("the kind of rule()", World::full, (x, n) -> x.rule(true, n, 0, 0, 0), -50, 50, 2, n -> n >= 0 && n <= 5);
  }

  private static void numbersOfPasses() {
    each("the number of pass()", World::full, (x, n) -> x.pass(0, 0, 0, n), -50, 50, 2, n -> n >= 0 && n <= 11);
    each("the person of pass()", World::full, (x, n) -> x.pass(n, 0, 0, 0), -50, 50, 2, n -> n >= 0 && n <= 11);
    // where no table is full: what is a PERSON makes a PASS
    for (int host = -50; host <= 50; host++) {
      GamesOffice x = World.used();
      if (host >= 0 && host <= 4) due.done("host " + host, x, x.pass(0, 2, 0, host), 8);
      else due.refused("host " + host, x, x.pass(0, 2, 0, host), 1);
    }
  }

  private static void places() {
    each("from where a door leads", World::full, (x, n) -> x.door(n, 3), -50, 50, 2, n -> n >= -1 && n <= 5 && n != 3);
    each("to where a door leads", World::full, (x, n) -> x.door(3, n), -50, 50, 2, n -> n >= -1 && n <= 5 && n != 3);
    each("out to where a door leads", World::full, (x, n) -> x.door(-1, n), -50, 50, 2, n -> n >= 0 && n <= 5);
    each("the zone of rule()", World::full, (x, n) -> x.rule(true, 0, n, 0, 0), -50, 50, 2, n -> n >= 0 && n <= 5);
  }

  private static void moments() {
    // PASS 7 is LOST
    each("the moment of lose()", World::used, (x, n) -> x.lose(7, n), -2000, 30000, 3, n -> n >= 0 && n <= 28799);
  }

  private static void momentsAsked() {
    for (int from = -200; from < 29000; from += 200) {
      GamesOffice x = World.used();
      for (int moment = from; moment < from + 200; moment++) {
        int want = moment >= 0 && moment <= 28799 ? 0 : -1;
        if (x.opens(0, 2, moment, 0) != want) due.is("opens(0, 2, " + moment + ", 0)", x.opens(0, 2, moment, 0), want);
        if (x.opens(0, 2, 0, moment) != want) due.is("opens(0, 2, 0, " + moment + ")", x.opens(0, 2, 0, moment), want);
      }
    }
  }

  private static void steps() {
    // at 25110 what is more than 3689 is too far
    each("a step too far of clock()", World::late, (x, n) -> x.clock(n), 3690, 6000, 2, n -> n <= 5000);
    each("a step below 0 of clock()", World::used, (x, n) -> x.clock(n), -500, 0, 0, n -> n == 0);
    for (int n = 0; n <= 3689; n += 31) {
      GamesOffice x = World.late();
      due.done("clock(" + n + ")", x, x.clock(n), 25110 + n);
    }
  }

  private static void halls() {
    each("the hall of unit()", World::full, (x, n) -> x.unit(n, 1, 0, -1, false), -50, 50, 2, n -> n >= 0 && n <= 3);
  }

  private static void lengths() {
    each("the length of unit()", World::full, (x, n) -> x.unit(0, n, 0, -1, true), -300, 600, 2, n -> n >= 1 && n <= 240);
  }

  private static void personsOfUnits() {
    each("the persons of unit()", World::full, (x, n) -> x.unit(0, 1, n, -1, true), -5000, 9000, 2, n -> n >= 0 && n <= 4095);
  }

  private static void behinds() {
    each("behind what a unit is", World::full, (x, n) -> x.unit(0, 1, 0, n, true), -3000, 3000, 2, n -> {
      if (n == -1) return true;
      return n >= 0 && n - n / 10 * 10 <= 5 && n / 10 <= 200;
    });
  }

  private static void seats() {
    each("seats()", World::used, (x, n) -> x.seats(n), -50, 50, 0, n -> n >= 1 && n <= 12);
  }

  private static void beds() {
    each("room()", World::full, (x, n) -> x.room(n), -50, 50, 2, n -> n >= 1 && n <= 9);
  }

  private static void groups() {
    each("how many are in a group", World::full, (x, n) -> x.group(0, n, 0), -50, 50, 2, n -> n >= 1 && n <= 9);
  }

  private static void sheets() {
    each("the sheet of sheet()", World::used, (x, n) -> x.sheet(n, 0, 0), -50, 50, 0, n -> n >= 0 && n <= 3);
    each("the sort of sheet()", World::used, (x, n) -> x.sheet(0, n, 0), -50, 50, 0, n -> n >= -1 && n <= 2);
    for (int sort = 0; sort <= 2; sort++) {
      int s = sort;
      each("the size of sheet()", World::used, (x, n) -> x.sheet(0, s, n), -100, 100, 0, n -> n >= 0 && n <= 40);
    }
    each("the sheet of cell()", GamesOffice::new, (x, n) -> x.cell(n, 0, 0), -50, 50, 10, n -> n >= 0 && n <= 3);
    each("the sheet of row()", GamesOffice::new, (x, n) -> x.row(n, 0, 0), -50, 50, 10, n -> n >= 0 && n <= 3);
    each("the sort of row()", GamesOffice::new, (x, n) -> x.row(0, n, 0), -50, 50, 10, n -> n >= 0 && n <= 2);
  }

  private static void cells() {
    each("the value of cell()", GamesOffice::new, (x, n) -> x.cell(0, 0, n), -4000, 4000, 10, n -> n >= -2000 && n <= 2000);
  }

  private static void forged() {
    each("the what of forge()", GamesOffice::new, (x, n) -> x.forge(n, 0, 0), 6, 50, 10, n -> n == 6);
    // 5: 1000 is divided by 0, that is 15; 6: none is there, that is 10
    each("the n of forge()", GamesOffice::new, (x, n) -> x.forge(6, 2 * n, 0), -200, 200, 10, n -> n >= -50 && n <= 50);
    each("the k of forge()", GamesOffice::new, (x, n) -> x.forge(5, 0, n), -300, 300, 15, n -> n >= -100 && n <= 100);
  }
}
