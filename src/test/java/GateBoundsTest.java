/** The boundary cases of "Terms" 1 and 2, a sentence by a test: PERSONS, ZONES, DOORS, PASSES, RULES, MOMENTS, PASSING. */
public final class GateBoundsTest {
  private static final Due due = new Due("GateBoundsTest");
  private static final int LAST_MOMENT = 28799;
  private static final int ALL_DAYS = 19;
  private static final int ALL_MINUTES = 1439;

  public static void main(String[] args) {
    nationsAre0To7();
    numbersAreFrom0();
    zoneForNobody();
    zoneFor99();
    personsAreOutsideAtFirst();
    momentIs28799AtMost();
    momentIsOfDayAndMinute();
    bothDaysOfPassCount();
    numbersOfPassesAre0To11();
    kindsUnderKinds();
    dayAndUpgradeOnFirstDayAlone();
    doorsLeadOneWay();
    allFourOfRulesCount();
    ruleOfOneMinute();
    ruleIsInForceFromItsMoment();
    ruleIsOutOfForceFromItsEnd();
    ruleToldAndEndedInOneMoment();
    lostFromMoment();
    lostFromTheFirstAndTheLastMoment();
    lostAsTold();
    noRuleIsThere();
    greatestNumberDecides();
    hostIsInThatZoneNow();
    moreThanHalfCut();
    intoOutside1And2AloneCount();
    leastWhyOfGuest();
    leastWhyOfUpgrade();
    asManyAsTheZoneHolds();
    twelveComeAndGo();
    backMakesRoomAgain();
    due.end();
  }

  private static void opens(GamesOffice x, int pass, int door, int moment, int at, int want) {
    String call = "opens(" + pass + ", " + door + ", " + moment + ", " + at + ")";
    due.asked(call, x, () -> x.opens(pass, door, moment, at), want);
  }

  private static void why(GamesOffice x, int pass, int zone, int moment, int at, int want) {
    String call = "why(" + pass + ", " + zone + ", " + moment + ", " + at + ")";
    due.asked(call, x, () -> x.why(pass, zone, moment, at), want);
  }

  /** WHY by may() and go() alike; 1 .. 5 by opens(), too. */
  private static void cannot(GamesOffice x, int person, int door, int pass, int want) {
    String call = "(" + person + ", " + door + ", " + pass + ")";
    due.asked("may" + call, x, () -> x.may(person, door, pass), want);
    int now = x.count(5);
    due.asked("opens for " + call, x, () -> x.opens(pass, door, now, now), want < 6 ? want : 0);
    due.refused("go" + call, x, x.go(person, door, pass), 20 + want);
  }

  /** So many PERSONS with a PASS each for all DAYS, a ZONE, DOOR 0 into it and 1 out of it; all are let in. */
  private static GamesOffice hall(int persons, int holds) {
    GamesOffice x = new GamesOffice();
    for (int i = 0; i < persons; i++) {
      x.person(0);
      x.pass(i, 0, ALL_DAYS, 0);
    }
    x.zone(holds);
    x.door(-1, 0);
    x.door(0, -1);
    x.rule(true, 0, 0, ALL_DAYS, ALL_MINUTES);
    return x;
  }

  private static void nationsAre0To7() {
    GamesOffice x = new GamesOffice();
    due.refused("person(-1)", x, x.person(-1), 1);
    due.refused("person(8)", x, x.person(8), 1);
    due.done("person(0)", x, x.person(0), 0);
    due.done("person(7)", x, x.person(7), 1);
    due.is("personTold(0, 0)", x.personTold(0, 0), 0);
    due.is("personTold(1, 0)", x.personTold(1, 0), 7);
  }

  private static void numbersAreFrom0() {
    GamesOffice x = new GamesOffice();
    due.done("the first person", x, x.person(0), 0);
    due.done("the first zone", x, x.zone(0), 0);
    due.done("the first door", x, x.door(-1, 0), 0);
    due.done("the first pass", x, x.pass(0, 0, 0, 0), 0);
    due.done("the first rule", x, x.rule(true, 0, 0, 0, 0), 0);
    due.done("the first unit", x, x.unit(0, 1, 0, -1, false), 0);
    due.done("the first room", x, x.room(1), 0);
    due.done("the first group", x, x.group(0, 1, 0), 0);
    due.done("the first result", x, x.result(1), 0);
  }

  private static void zoneForNobody() {
    GamesOffice x = hall(1, 0);
    cannot(x, 0, 0, 0, 8);
    due.is("zoneTold(0, 0)", x.zoneTold(0, 0), 0);
    due.is("zoneTold(0, 1)", x.zoneTold(0, 1), 0);
  }

  private static void zoneFor99() {
    GamesOffice x = hall(12, 99);
    for (int i = 0; i < 12; i++) due.done("go(" + i + ", 0, " + i + ")", x, x.go(i, 0, i), 0);
    due.is("zoneTold(0, 0)", x.zoneTold(0, 0), 99);
    due.is("zoneTold(0, 1)", x.zoneTold(0, 1), 12);
  }

  private static void personsAreOutsideAtFirst() {
    GamesOffice x = hall(2, 1);
    due.is("personTold(0, 1)", x.personTold(0, 1), -2);
    due.is("count(10)", x.count(10), 2);
    x.go(0, 0, 0);
    due.is("personTold(0, 1) inside", x.personTold(0, 1), 0);
    due.is("personTold(1, 1)", x.personTold(1, 1), -2);
    due.is("count(10) with one inside", x.count(10), 1);
    due.is("a person that comes later is OUTSIDE", x.personTold(x.person(0), 1), -2);
    due.is("count(10) with one more", x.count(10), 2);
  }

  private static void momentIs28799AtMost() {
    GamesOffice x = hall(1, 1);
    for (int i = 0; i < 5; i++) x.clock(5000);
    due.refused("clock(3800), to 28800", x, x.clock(3800), 2);
    due.is("THE MOMENT behind a refused one", x.count(5), 25000);
    due.done("clock(3799), to 28799", x, x.clock(3799), 28799);
    due.refused("clock(1)", x, x.clock(1), 2);
    due.done("clock(0)", x, x.clock(0), 28799);
    due.done("go in the last moment", x, x.go(0, 0, 0), 0);
    opens(x, 0, 0, LAST_MOMENT, LAST_MOMENT, 0);
    opens(x, 0, 0, LAST_MOMENT + 1, LAST_MOMENT, -1);
    opens(x, 0, 0, LAST_MOMENT, LAST_MOMENT + 1, -1);
    opens(x, 0, 0, 0, 0, 0);
    opens(x, 0, 0, -1, 0, -1);
    opens(x, 0, 0, 0, -1, -1);
    why(x, 0, 0, LAST_MOMENT, LAST_MOMENT, 0);
    why(x, 0, 0, LAST_MOMENT + 1, LAST_MOMENT, -1);
    why(x, 0, 0, LAST_MOMENT, LAST_MOMENT + 1, -1);
    why(x, 0, 0, -1, 0, -1);
    why(x, 0, 0, 0, -1, -1);
    due.refused("lose(0, 28800)", x, x.lose(0, 28800), 1);
    due.refused("lose(0, -1)", x, x.lose(0, -1), 1);
    due.done("lose(0, 28799)", x, x.lose(0, 28799), 1);
    due.refused("go with what is lost in this moment", x, x.go(0, 1, 0), 21);
  }

  private static void momentIsOfDayAndMinute() {
    GamesOffice x = new GamesOffice();
    x.person(0);
    x.zone(1);
    x.door(0, -1);
    for (int day = 0; day <= 19; day++) {
      int pass = x.pass(0, 0, 101 * day, 0);
      if (day > 0) opens(x, pass, 0, 1440 * day - 1, 0, 2);
      opens(x, pass, 0, 1440 * day, 0, 0);
      opens(x, pass, 0, 1440 * day + 1439, 0, 0);
      opens(x, pass, 0, 1440 * day + 1440, 0, day < 19 ? 2 : -1);
    }
  }

  private static void bothDaysOfPassCount() {
    GamesOffice x = hall(1, 1);
    int pass = x.pass(0, 1, 406, 0);
    opens(x, pass, 0, 4 * 1440 - 1, 0, 2);
    opens(x, pass, 0, 4 * 1440, 0, 0);
    opens(x, pass, 0, 7 * 1440 - 1, 0, 0);
    opens(x, pass, 0, 7 * 1440, 0, 2);
    int always = x.pass(0, 1, 19, 0);
    opens(x, always, 0, 0, 0, 0);
    opens(x, always, 0, LAST_MOMENT, 0, 0);
    int last = x.pass(0, 1, 1919, 0);
    opens(x, last, 0, 19 * 1440 - 1, 0, 2);
    opens(x, last, 0, 19 * 1440, 0, 0);
    due.refused("a last day ahead of the first one", x, x.pass(0, 1, 403, 0), 1);
    due.done("one day", x, x.pass(0, 1, 404, 0), 4);
    due.refused("to day 20", x, x.pass(0, 1, 420, 0), 1);
    due.refused("from day 20", x, x.pass(0, 1, 2020, 0), 1);
  }

  private static void numbersOfPassesAre0To11() {
    GamesOffice x = hall(12, 1);
    for (int kind = 0; kind < 6; kind++) {
      due.refused("NUMBER -1 of kind " + kind, x, x.pass(0, kind, 0, -1), 1);
      due.refused("NUMBER 12 of kind " + kind, x, x.pass(0, kind, 0, 12), 1);
    }
    due.done("NUMBER 0", x, x.pass(0, 2, 0, 0), 12);
    due.done("NUMBER 11", x, x.pass(0, 2, 0, 11), 13);
    due.is("passTold(12, 4)", x.passTold(12, 4), 0);
    due.is("passTold(13, 4)", x.passTold(13, 4), 11);
    GamesOffice few = hall(3, 1);
    due.refused("a HOST that is no PERSON", few, few.pass(0, 2, 0, 3), 1);
    due.done("the last PERSON as HOST", few, few.pass(0, 2, 0, 2), 3);
    due.done("NUMBER 3 of a DAY", few, few.pass(0, 3, 0, 3), 4);
  }

  /** By the KIND of a RULE, the KINDS of PASSES that it fits. */
  private static void kindsUnderKinds() {
    int[][] under = {{0, 1, 2, 3, 4, 5}, {1, 5}, {2}, {3, 4}, {4}, {5}};
    for (int kind = 0; kind < 6; kind++) {
      GamesOffice x = new GamesOffice();
      x.person(0);
      x.zone(1);
      for (int k = 0; k < 6; k++) x.pass(0, k, ALL_DAYS, 0);
      x.rule(true, kind, 0, ALL_DAYS, ALL_MINUTES);
      int[] want = {-1, -1, -1, -1, -1, -1};
      for (int k : under[kind]) want[k] = 0;
      for (int k = 0; k < 6; k++) why(x, k, 0, 0, 0, want[k]);
    }
    GamesOffice x = hall(1, 1);
    due.refused("pass of kind -1", x, x.pass(0, -1, 0, 0), 1);
    due.refused("pass of kind 6", x, x.pass(0, 6, 0, 0), 1);
    due.refused("rule for kind -1", x, x.rule(true, -1, 0, 0, 0), 1);
    due.refused("rule for kind 6", x, x.rule(true, 6, 0, 0, 0), 1);
    due.done("pass of kind 5", x, x.pass(0, 5, 0, 0), 1);
    due.done("rule for kind 5", x, x.rule(true, 5, 0, 0, 0), 1);
  }

  private static void dayAndUpgradeOnFirstDayAlone() {
    GamesOffice x = hall(1, 1);
    boolean[] isForOneDay = {false, false, false, true, true, false};
    for (int kind = 0; kind < 6; kind++) {
      int pass = x.pass(0, kind, 507, 0);
      // out of the ZONE: no RULE, no HOST, no half of it counts there
      opens(x, pass, 1, 5 * 1440 - 1, 0, 2);
      opens(x, pass, 1, 5 * 1440, 0, 0);
      opens(x, pass, 1, 6 * 1440 - 1, 0, 0);
      opens(x, pass, 1, 6 * 1440, 0, isForOneDay[kind] ? 2 : 0);
      opens(x, pass, 1, 8 * 1440 - 1, 0, isForOneDay[kind] ? 2 : 0);
      opens(x, pass, 1, 8 * 1440, 0, 2);
      due.is("the last DAY as told", x.passTold(pass, 3), 7);
    }
  }

  private static void doorsLeadOneWay() {
    GamesOffice x = hall(1, 1);
    x.zone(1);
    x.door(0, 1);
    x.rule(true, 0, 1, ALL_DAYS, ALL_MINUTES);
    cannot(x, 0, 1, 0, 7);
    due.done("in", x, x.go(0, 0, 0), 0);
    cannot(x, 0, 0, 0, 7);
    due.done("on", x, x.go(0, 2, 0), 1);
    cannot(x, 0, 2, 0, 7);
    cannot(x, 0, 1, 0, 7);
    due.refused("from OUTSIDE to OUTSIDE", x, x.door(-1, -1), 1);
    due.refused("from zone 1 to itself", x, x.door(1, 1), 1);
    due.refused("from zone 2, that is not there", x, x.door(2, -1), 1);
    due.refused("to zone 2, that is not there", x, x.door(-1, 2), 1);
    due.refused("from -2", x, x.door(-2, 0), 1);
    due.refused("to -2", x, x.door(0, -2), 1);
  }

  private static void allFourOfRulesCount() {
    GamesOffice x = new GamesOffice();
    x.person(0);
    x.zone(1);
    x.pass(0, 0, ALL_DAYS, 0);
    x.rule(true, 0, 0, 305, 1000200);
    for (int day = 0; day <= 19; day++) {
      int fits = day >= 3 && day <= 5 ? 0 : -1;
      why(x, 0, 0, day * 1440 + 99, 0, -1);
      why(x, 0, 0, day * 1440 + 100, 0, fits);
      why(x, 0, 0, day * 1440 + 200, 0, fits);
      why(x, 0, 0, day * 1440 + 201, 0, -1);
    }
  }

  private static void ruleOfOneMinute() {
    GamesOffice x = new GamesOffice();
    x.person(0);
    x.zone(1);
    x.pass(0, 0, ALL_DAYS, 0);
    due.done("the first minute of the first day", x, x.rule(true, 0, 0, 0, 0), 0);
    due.done("the last minute of the last day", x, x.rule(true, 0, 0, 1919, 14391439), 1);
    why(x, 0, 0, 0, 0, 0);
    why(x, 0, 0, 1, 0, -1);
    why(x, 0, 0, 1440, 0, -1);
    why(x, 0, 0, LAST_MOMENT, 0, 1);
    why(x, 0, 0, LAST_MOMENT - 1, 0, -1);
    why(x, 0, 0, LAST_MOMENT - 1440, 0, -1);
    due.refused("a last minute ahead of the first one", x, x.rule(true, 0, 0, 0, 5000499), 1);
    due.refused("a last day ahead of the first one", x, x.rule(true, 0, 0, 504, 0), 1);
    due.refused("minute 1440", x, x.rule(true, 0, 0, 0, 1440), 1);
    due.refused("from minute 1440", x, x.rule(true, 0, 0, 0, 14401440), 1);
    due.refused("day 20", x, x.rule(true, 0, 0, 20, 0), 1);
  }

  private static void ruleIsInForceFromItsMoment() {
    GamesOffice x = new GamesOffice();
    x.person(0);
    x.zone(1);
    x.door(-1, 0);
    x.pass(0, 0, ALL_DAYS, 0);
    x.clock(40);
    x.rule(true, 0, 0, ALL_DAYS, ALL_MINUTES);
    why(x, 0, 0, 0, 39, -1);
    why(x, 0, 0, 0, 40, 0);
    why(x, 0, 0, 0, LAST_MOMENT, 0);
    opens(x, 0, 0, 0, 39, 3);
    opens(x, 0, 0, 0, 40, 0);
    due.done("go in the moment in which it is told", x, x.go(0, 0, 0), 0);
  }

  private static void ruleIsOutOfForceFromItsEnd() {
    GamesOffice x = hall(1, 1);
    x.clock(40);
    due.done("end(0)", x, x.end(0), 1);
    why(x, 0, 0, 0, 0, 0);
    why(x, 0, 0, 0, 39, 0);
    why(x, 0, 0, 0, 40, -1);
    why(x, 0, 0, 0, LAST_MOMENT, -1);
    due.refused("end(0) again", x, x.end(0), 3);
    x.clock(10);
    due.refused("end(0) again, later", x, x.end(0), 3);
    why(x, 0, 0, 0, 39, 0);
    why(x, 0, 0, 0, 40, -1);
    cannot(x, 0, 0, 0, 3);
  }

  private static void ruleToldAndEndedInOneMoment() {
    GamesOffice x = hall(1, 1);
    x.clock(40);
    x.rule(false, 0, 0, ALL_DAYS, ALL_MINUTES);
    why(x, 0, 0, 0, 40, 1);
    x.end(1);
    for (int at : new int[] {0, 39, 40, 41, LAST_MOMENT}) why(x, 0, 0, 0, at, 0);
  }

  private static void lostFromMoment() {
    GamesOffice x = hall(1, 1);
    x.lose(0, 2000);
    opens(x, 0, 0, 1999, 0, 0);
    opens(x, 0, 0, 2000, 0, 1);
    opens(x, 0, 0, 2001, 0, 1);
    opens(x, 0, 1, 1999, 0, 0);
    opens(x, 0, 1, 2000, 0, 1);
    x.clock(1999);
    due.done("go in the last moment in which it is not lost", x, x.go(0, 0, 0), 0);
    x.clock(1);
    cannot(x, 0, 1, 0, 1);
  }

  private static void lostFromTheFirstAndTheLastMoment() {
    GamesOffice x = hall(2, 1);
    due.is("passTold(0, 5)", x.passTold(0, 5), -1);
    due.done("lose(0, 0)", x, x.lose(0, 0), 1);
    due.done("lose(1, 28799)", x, x.lose(1, 28799), 1);
    opens(x, 0, 1, 0, 0, 1);
    opens(x, 1, 1, LAST_MOMENT - 1, 0, 0);
    opens(x, 1, 1, LAST_MOMENT, 0, 1);
    due.is("passTold(0, 5)", x.passTold(0, 5), 0);
    due.is("passTold(1, 5)", x.passTold(1, 5), LAST_MOMENT);
    due.refused("lose(0, 1), lost from 0 on", x, x.lose(0, 1), 3);
    due.refused("lose(1, 1), lost from later on", x, x.lose(1, 1), 3);
    due.is("passTold(1, 5)", x.passTold(1, 5), LAST_MOMENT);
  }

  private static void lostAsTold() {
    GamesOffice x = hall(1, 1);
    x.clock(70);
    x.lose(0, 10);
    // told at 70, from 10 on
    opens(x, 0, 0, 10, 69, 0);
    opens(x, 0, 0, 10, 70, 1);
    opens(x, 0, 0, 9, 70, 0);
    opens(x, 0, 0, LAST_MOMENT, 69, 0);
    opens(x, 0, 0, LAST_MOMENT, LAST_MOMENT, 1);
    cannot(x, 0, 0, 0, 1);
  }

  private static void noRuleIsThere() {
    GamesOffice x = new GamesOffice();
    x.person(0);
    x.zone(1);
    x.door(-1, 0);
    x.door(0, -1);
    x.pass(0, 0, ALL_DAYS, 0);
    cannot(x, 0, 0, 0, 3);
    why(x, 0, 0, 0, 0, -1);
    opens(x, 0, 1, 0, 0, 0);
  }

  private static void greatestNumberDecides() {
    GamesOffice x = new GamesOffice();
    x.person(0);
    x.zone(1);
    x.door(-1, 0);
    x.pass(0, 5, ALL_DAYS, 0);
    // the number decides, not how near the KIND is
    int[] kinds = {5, 1, 0, 5, 0, 1, 5, 0, 1, 5, 1, 0};
    for (int i = 0; i < 12; i++) {
      due.done("rule " + i, x, x.rule(i % 2 == 0, kinds[i], 0, ALL_DAYS, ALL_MINUTES), i);
      why(x, 0, 0, 0, 0, i);
      opens(x, 0, 0, 0, 0, i % 2 == 0 ? 0 : 3);
    }
    for (int i = 11; i > 0; i--) {
      x.end(i);
      why(x, 0, 0, 0, 0, i - 1);
      opens(x, 0, 0, 0, 0, i % 2 == 0 ? 3 : 0);
    }
    x.end(0);
    why(x, 0, 0, 0, 0, -1);
  }

  private static void hostIsInThatZoneNow() {
    GamesOffice x = hall(2, 9);
    x.zone(9);
    x.door(0, 1);
    x.rule(true, 0, 1, ALL_DAYS, ALL_MINUTES);
    int guest = x.pass(0, 2, ALL_DAYS, 1);
    cannot(x, 0, 0, guest, 4);
    x.go(1, 0, 1);
    opens(x, guest, 0, 0, 0, 0);
    opens(x, guest, 2, 0, 0, 4);
    due.done("go to the HOST", x, x.go(0, 0, guest), 0);
    cannot(x, 0, 2, guest, 4);
    x.go(1, 2, 1);
    opens(x, guest, 0, 0, 0, 4);
    opens(x, guest, 2, 0, 0, 0);
    due.done("go after the HOST", x, x.go(0, 2, guest), 1);
    // one's own HOST is never where one is not
    int own = x.pass(1, 2, ALL_DAYS, 1);
    opens(x, own, 2, 0, 0, 0);
    opens(x, own, 0, 0, 0, 4);
  }

  /** By what a ZONE HOLDS: with how many in it an UPGRADE opens no more. */
  private static void moreThanHalfCut() {
    int[] shutWith = {1, 1, 2, 2, 3, 3, 4, 4};
    for (int holds = 0; holds < shutWith.length; holds++) {
      GamesOffice x = hall(8, holds);
      int upgrade = x.pass(7, 4, ALL_DAYS, 0);
      for (int inside = 0; inside <= holds; inside++) {
        if (inside > 0) due.done("go " + inside + " of " + holds, x, x.go(inside - 1, 0, inside - 1), 0);
        opens(x, upgrade, 0, 0, 0, inside >= shutWith[holds] ? 5 : 0);
        opens(x, upgrade, 1, 0, 0, 0);
      }
    }
    // nobody is more than half of nobody: full, not crowded
    GamesOffice x = hall(1, 0);
    cannot(x, 0, 0, x.pass(0, 4, ALL_DAYS, 0), 8);
  }

  private static void intoOutside1And2AloneCount() {
    GamesOffice x = hall(3, 1);
    x.go(0, 0, 0);
    int guest = x.pass(0, 2, 0, 1);
    int upgrade = x.pass(0, 4, 0, 0);
    x.rule(false, 0, 0, ALL_DAYS, ALL_MINUTES);
    for (int pass : new int[] {0, guest, upgrade}) {
      opens(x, pass, 0, 0, 0, 3);
      opens(x, pass, 1, 0, 0, 0);
    }
    for (int pass : new int[] {guest, upgrade}) {
      opens(x, pass, 1, 1440, 0, 2);
      x.lose(pass, 1440);
      opens(x, pass, 1, 1439, 0, 0);
      opens(x, pass, 1, 1440, 0, 1);
    }
    due.done("out by one's PASS", x, x.go(0, 1, 0), -2);
  }

  /** Every reason but 5 holds; from the least on, one by one is done away with. */
  private static void leastWhyOfGuest() {
    GamesOffice x = new GamesOffice();
    for (int i = 0; i < 3; i++) x.person(0);
    x.zone(1);
    x.door(-1, 0);
    x.door(0, -1);
    int hosts = x.pass(1, 0, ALL_DAYS, 0);
    int lost = x.pass(0, 2, 101, 1);
    int guest = x.pass(0, 2, 101, 1);
    x.lose(lost, 0);
    int others = 1;
    cannot(x, others, 0, lost, 1);
    cannot(x, others, 0, guest, 2);
    x.clock(1440);
    cannot(x, others, 0, lost, 1);
    cannot(x, others, 0, guest, 3);
    x.rule(true, 0, 0, ALL_DAYS, ALL_MINUTES);
    cannot(x, others, 0, guest, 4);
    due.done("the HOST goes in", x, x.go(1, 0, hosts), 0);
    // it is full now, the PASS is of PERSON 0, PERSON 1 is inside
    cannot(x, others, 0, guest, 6);
    cannot(x, 2, 0, guest, 6);
    due.done("the one of the HOST", x, x.pass(1, 2, 101, 1), 3);
    cannot(x, 1, 0, 3, 7);
    cannot(x, 0, 0, guest, 8);
    x.rule(false, 2, 0, ALL_DAYS, ALL_MINUTES);
    cannot(x, 0, 0, guest, 3);
    x.end(1);
    cannot(x, 0, 0, guest, 8);
  }

  private static void leastWhyOfUpgrade() {
    GamesOffice x = hall(2, 1);
    int lost = x.pass(1, 4, 102, 0);
    int upgrade = x.pass(1, 4, 102, 0);
    x.lose(lost, 0);
    x.end(0);
    cannot(x, 0, 0, lost, 1);
    cannot(x, 0, 0, upgrade, 2);
    x.clock(1440);
    cannot(x, 0, 0, lost, 1);
    cannot(x, 0, 0, upgrade, 3);
    x.rule(true, 0, 0, ALL_DAYS, ALL_MINUTES);
    due.done("go(0, 0, 0)", x, x.go(0, 0, 0), 0);
    // more than half, another one's, elsewhere, full
    cannot(x, 0, 0, upgrade, 5);
    cannot(x, 1, 0, upgrade, 5);
    x.go(0, 1, 0);
    cannot(x, 0, 0, upgrade, 6);
    due.done("go(1, 0, upgrade)", x, x.go(1, 0, upgrade), 0);
  }

  private static void asManyAsTheZoneHolds() {
    GamesOffice x = hall(4, 3);
    for (int i = 0; i < 3; i++) due.done("go(" + i + ", 0, " + i + ")", x, x.go(i, 0, i), 0);
    cannot(x, 3, 0, 3, 8);
    due.is("zoneTold(0, 1)", x.zoneTold(0, 1), 3);
    due.done("one goes out", x, x.go(1, 1, 1), -2);
    due.done("one comes in", x, x.go(3, 0, 3), 0);
    cannot(x, 1, 0, 1, 8);
    due.is("zoneTold(0, 1)", x.zoneTold(0, 1), 3);
    due.is("zoneTold(0, 2)", x.zoneTold(0, 2), 4);
    due.is("zoneTold(0, 3)", x.zoneTold(0, 3), 1);
  }

  private static void twelveComeAndGo() {
    GamesOffice x = hall(12, 12);
    for (int i = 0; i < 12; i++) x.go(i, 0, i);
    due.is("count(10) with all inside", x.count(10), 0);
    due.is("zoneTold(0, 1)", x.zoneTold(0, 1), 12);
    for (int i = 0; i < 12; i++) x.go(i, 1, i);
    due.is("count(10) with none inside", x.count(10), 12);
    due.is("zoneTold(0, 1)", x.zoneTold(0, 1), 0);
    due.is("zoneTold(0, 2)", x.zoneTold(0, 2), 12);
    due.is("zoneTold(0, 3)", x.zoneTold(0, 3), 12);
    for (int i = 0; i < 12; i++) due.is("personTold(" + i + ", 3)", x.personTold(i, 3), 2);
  }

  /** A full table has room again where all is as an emptier IMAGE has it. */
  private static void backMakesRoomAgain() {
    GamesOffice x = World.full();
    due.refused("a 13th person", x, x.person(0), 2);
    x.back();
    for (int what : new int[] {0, 1, 2, 3, 4, 6, 7, 8, 9}) due.is("count(" + what + ")", x.count(what), 0);
    due.done("the first person again", x, x.person(3), 0);
    due.done("the first zone again", x, x.zone(1), 0);
    due.done("the first door again", x, x.door(-1, 0), 0);
    due.done("the first pass again", x, x.pass(0, 0, 0, 0), 0);
    due.done("the first rule again", x, x.rule(true, 0, 0, 0, 0), 0);
    due.done("the first unit again", x, x.unit(0, 1, 0, -1, false), 0);
    due.done("the first room again", x, x.room(1), 0);
    due.done("the first group again", x, x.group(0, 1, 0), 0);
    due.done("the first result again", x, x.result(1), 0);
    int[] told = {3, -2, 1, 0};
    for (int what = 0; what < 4; what++) due.is("personTold(0, " + what + ")", x.personTold(0, what), told[what]);
    due.is("passTold(0, 5)", x.passTold(0, 5), -1);
    due.is("placed(0, 0), which was stripped nowhere", x.placed(0, 0), 0);
    due.is("why(0, 0, 0, 0)", x.why(0, 0, 0, 0), 0);
  }
}
