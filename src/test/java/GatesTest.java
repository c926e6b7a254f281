/** Promises 2 to 10 and 19 to 24: PERSONS, ZONES, DOORS, PASSES, RULES, MOMENTS and PASSING. */
public final class GatesTest {
  private static final Due due = new Due("GatesTest");
  private static final int LEAST = Integer.MIN_VALUE;
  private static final int GREATEST = Integer.MAX_VALUE;

  public static void main(String[] args) {
    promise2();
    promise3();
    promise4();
    promise5();
    promise6();
    promise7();
    promise8();
    promise9();
    promise10();
    promise10Statuses();
    promise19();
    promise20();
    promise21();
    promise22Lost();
    promise22Days();
    promise22Rules();
    promise22Hosts();
    promise22Upgrades();
    promise22Outside();
    promise22NoSuch();
    promise23();
    promise24();
    due.end();
  }

  private static void promise2() {
    GamesOffice x = new GamesOffice();
    for (int nation : new int[] {-1, 8, LEAST, GREATEST}) due.refused("person(" + nation + ")", x, x.person(nation), 1);
    due.is("count(0)", x.count(0), 0);
    for (int i = 0; i < 12; i++) due.done("person(" + i % 8 + ")", x, x.person(i % 8), i);
    due.refused("a 13th person", x, x.person(0), 2);
    due.refused("person(8) without room", x, x.person(8), 1);
    due.is("count(0)", x.count(0), 12);
  }

  private static void promise3() {
    GamesOffice x = new GamesOffice();
    for (int holds : new int[] {-1, 100, LEAST, GREATEST}) due.refused("zone(" + holds + ")", x, x.zone(holds), 1);
    int[] holds = {0, 99, 1, 2, 3, 4};
    for (int i = 0; i < 6; i++) due.done("zone(" + holds[i] + ")", x, x.zone(holds[i]), i);
    due.refused("a 7th zone", x, x.zone(0), 2);
    due.refused("zone(100) without room", x, x.zone(100), 1);
    due.is("zoneTold(1, 0)", x.zoneTold(1, 0), 99);
    due.is("count(1)", x.count(1), 6);
  }

  private static void promise4() {
    GamesOffice x = new GamesOffice();
    due.refused("door(-1, 0) without zones", x, x.door(-1, 0), 1);
    x.zone(1);
    x.zone(1);
    int[][] wrong = {{-1, -1}, {0, 0}, {1, 1}, {-2, 0}, {0, -2}, {2, 0}, {0, 2}, {LEAST, 0}, {0, GREATEST}};
    for (int[] d : wrong) due.refused("door(" + d[0] + ", " + d[1] + ")", x, x.door(d[0], d[1]), 1);
    int[][] right = {{-1, 0}, {0, -1}, {0, 1}, {1, 0}, {1, -1}, {-1, 1}, {-1, 0}, {0, -1}, {0, 1}, {1, 0}, {1, -1}, {-1, 1}};
    for (int i = 0; i < 12; i++) due.done("door(" + right[i][0] + ", " + right[i][1] + ")", x, x.door(right[i][0], right[i][1]), i);
    due.refused("a 13th door", x, x.door(-1, 0), 2);
    due.refused("door(0, 0) without room", x, x.door(0, 0), 1);
    due.is("count(2)", x.count(2), 12);
  }

  private static void promise5() {
    GamesOffice x = new GamesOffice();
    due.refused("pass without persons", x, x.pass(0, 0, 0, 0), 1);
    x.person(0);
    x.person(1);
    int[][] wrong = {
        {-1, 0, 0, 0}, {2, 0, 0, 0}, {LEAST, 0, 0, 0}, {GREATEST, 0, 0, 0},
        {0, -1, 0, 0}, {0, 6, 0, 0}, {0, GREATEST, 0, 0},
        {0, 0, -1, 0}, {0, 0, 20, 0}, {0, 0, 100, 0}, {0, 0, 504, 0}, {0, 0, 1920, 0}, {0, 0, 2020, 0}, {0, 0, LEAST, 0},
        {0, 0, GREATEST, 0}, {0, 0, -101, 0},
        {0, 0, 0, -1}, {0, 0, 0, 12}, {0, 0, 0, LEAST},
        {0, 2, 0, 2}, {0, 2, 0, 11}, {0, 2, 0, -1}, {0, 2, 0, 12}};
    for (int[] p : wrong) {
      due.refused("pass(" + p[0] + ", " + p[1] + ", " + p[2] + ", " + p[3] + ")", x, x.pass(p[0], p[1], p[2], p[3]), 1);
    }
    due.is("count(3)", x.count(3), 0);
    int[][] right = {{0, 0, 0, 0}, {1, 1, 1919, 11}, {0, 2, 19, 1}, {1, 2, 505, 1}, {0, 3, 304, 11}, {1, 4, 101, 5}, {0, 5, 19, 11}};
    for (int i = 0; i < right.length; i++) {
      int[] p = right[i];
      due.done("pass " + i, x, x.pass(p[0], p[1], p[2], p[3]), i);
    }
    for (int i = right.length; i < 20; i++) due.done("pass " + i, x, x.pass(0, 0, 0, 0), i);
    due.refused("a 21st pass", x, x.pass(0, 0, 0, 0), 2);
    due.refused("a wrong pass without room", x, x.pass(0, 0, 0, 12), 1);
    due.is("count(3)", x.count(3), 20);
  }

  private static void promise6() {
    GamesOffice x = new GamesOffice();
    due.refused("lose(0, 0) without passes", x, x.lose(0, 0), 1);
    x.person(0);
    x.pass(0, 0, 19, 0);
    x.pass(0, 0, 19, 0);
    x.pass(0, 0, 19, 0);
    int[][] wrong = {{-1, 0}, {3, 0}, {GREATEST, 0}, {0, -1}, {0, 28800}, {0, LEAST}};
    for (int[] l : wrong) due.refused("lose(" + l[0] + ", " + l[1] + ")", x, x.lose(l[0], l[1]), 1);
    due.is("passTold(0, 5)", x.passTold(0, 5), -1);
    x.clock(100);
    due.done("lose(0, 0)", x, x.lose(0, 0), 1);
    due.done("lose(1, 28799)", x, x.lose(1, 28799), 1);
    due.done("lose(2, 50)", x, x.lose(2, 50), 1);
    due.refused("lose(0, 0) again", x, x.lose(0, 0), 3);
    due.refused("lose(1, 5) again", x, x.lose(1, 5), 3);
    due.refused("lose(1, 28800) again", x, x.lose(1, 28800), 1);
    due.is("passTold(0, 5)", x.passTold(0, 5), 0);
    due.is("passTold(1, 5)", x.passTold(1, 5), 28799);
    due.is("passTold(2, 5)", x.passTold(2, 5), 50);
  }

  private static void promise7() {
    GamesOffice x = new GamesOffice();
    due.refused("rule without zones", x, x.rule(true, 0, 0, 0, 0), 1);
    x.zone(1);
    int[][] wrong = {
        {-1, 0, 0, 0}, {6, 0, 0, 0}, {LEAST, 0, 0, 0},
        {0, -1, 0, 0}, {0, 1, 0, 0}, {0, GREATEST, 0, 0},
        {0, 0, -1, 0}, {0, 0, 20, 0}, {0, 0, 201, 0}, {0, 0, 2020, 0}, {0, 0, GREATEST, 0},
        {0, 0, 0, -1}, {0, 0, 0, 1440}, {0, 0, 0, 10000}, {0, 0, 0, 14391438}, {0, 0, 0, 14401440}, {0, 0, 0, 9999},
        {0, 0, 0, LEAST}, {0, 0, 0, GREATEST}};
    for (int[] r : wrong) {
      due.refused("rule(true, " + r[0] + ", " + r[1] + ", " + r[2] + ", " + r[3] + ")", x, x.rule(true, r[0], r[1], r[2], r[3]), 1);
    }
    due.is("count(4)", x.count(4), 0);
    int[][] right = {{0, 0, 0, 0}, {5, 0, 1919, 14391439}, {1, 0, 19, 1439}, {2, 0, 101, 10001}};
    for (int i = 0; i < 12; i++) {
      int[] r = right[i % 4];
      due.done("rule " + i, x, x.rule(i % 2 == 0, r[0], r[1], r[2], r[3]), i);
    }
    due.refused("a 13th rule", x, x.rule(true, 0, 0, 0, 0), 2);
    due.refused("a wrong rule without room", x, x.rule(true, 6, 0, 0, 0), 1);
    due.is("count(4)", x.count(4), 12);
  }

  private static void promise8() {
    GamesOffice x = new GamesOffice();
    due.refused("end(0) without rules", x, x.end(0), 1);
    x.zone(1);
    x.rule(true, 0, 0, 0, 0);
    x.rule(true, 0, 0, 0, 0);
    for (int rule : new int[] {-1, 2, LEAST, GREATEST}) due.refused("end(" + rule + ")", x, x.end(rule), 1);
    due.done("end(0) in the moment at which it was told", x, x.end(0), 1);
    due.refused("end(0) again", x, x.end(0), 3);
    x.clock(30);
    due.done("end(1)", x, x.end(1), 1);
    x.clock(30);
    due.refused("end(1) again, later", x, x.end(1), 3);
    due.is("an ended rule is counted still", x.count(4), 2);
  }

  private static void promise9() {
    GamesOffice x = new GamesOffice();
    for (int n : new int[] {-1, 5001, LEAST, GREATEST}) due.refused("clock(" + n + ")", x, x.clock(n), 1);
    due.done("clock(0)", x, x.clock(0), 0);
    for (int i = 1; i <= 5; i++) due.done("clock(5000)", x, x.clock(5000), 5000 * i);
    due.refused("clock(3800), to 28800", x, x.clock(3800), 2);
    due.refused("clock(5001) at 25000", x, x.clock(5001), 1);
    due.is("count(5)", x.count(5), 25000);
    due.done("clock(3799)", x, x.clock(3799), 28799);
    due.refused("clock(1) at the end", x, x.clock(1), 2);
    due.done("clock(0) at the end", x, x.clock(0), 28799);
  }

  /** Two ZONES of 2 and 1, DOORS 0 in, 1 on, 2 out of the further one, 3 back; all PASSES are let in. */
  private static GamesOffice opened() {
    GamesOffice x = new GamesOffice();
    for (int i = 0; i < 4; i++) x.person(i);
    x.zone(2);
    x.zone(1);
    x.door(-1, 0);
    x.door(0, 1);
    x.door(1, -1);
    x.door(1, 0);
    x.rule(true, 0, 0, 19, 1439);
    x.rule(true, 0, 1, 19, 1439);
    for (int i = 0; i < 4; i++) x.pass(i, 0, 19, 0);
    return x;
  }

  private static void promise10() {
    GamesOffice x = opened();
    due.done("go(0, 0, 0)", x, x.go(0, 0, 0), 0);
    due.done("go(1, 0, 1)", x, x.go(1, 0, 1), 0);
    due.refused("go(2, 0, 2) into what is full", x, x.go(2, 0, 2), 28);
    due.is("zoneTold(0, 1)", x.zoneTold(0, 1), 2);
    due.done("go(0, 1, 0)", x, x.go(0, 1, 0), 1);
    due.refused("go(1, 1, 1) into what is full", x, x.go(1, 1, 1), 28);
    due.done("go(2, 0, 2)", x, x.go(2, 0, 2), 0);
    due.refused("go(0, 3, 0) back into what is full", x, x.go(0, 3, 0), 28);
    due.done("go(0, 2, 0)", x, x.go(0, 2, 0), -2);
    due.is("personTold(0, 1)", x.personTold(0, 1), -2);
    due.refused("go(0, 2, 0) again", x, x.go(0, 2, 0), 27);
    due.is("personTold(0, 3)", x.personTold(0, 3), 3);
    int[][] none = {{-1, 0, 0}, {4, 0, 0}, {0, -1, 0}, {0, 4, 0}, {0, 0, -1}, {0, 0, 4}, {LEAST, 0, 0}, {0, GREATEST, 0}};
    for (int[] g : none) due.refused("go(" + g[0] + ", " + g[1] + ", " + g[2] + ")", x, x.go(g[0], g[1], g[2]), 1);
  }

  private static void promise10Statuses() {
    GamesOffice x = opened();
    x.pass(0, 0, 101, 0);
    x.pass(0, 2, 19, 1);
    x.pass(0, 4, 19, 0);
    x.pass(1, 4, 19, 0);
    x.pass(3, 1, 19, 0);
    x.rule(false, 1, 0, 19, 1439);
    x.lose(1, 0);
    due.refused("go with a lost pass", x, x.go(1, 0, 1), 21);
    due.refused("go on another day", x, x.go(0, 0, 4), 22);
    due.refused("go with a barred pass", x, x.go(3, 0, 8), 23);
    due.refused("go without the host", x, x.go(0, 0, 5), 24);
    due.done("go(0, 0, 6): 0 of 2 are in", x, x.go(0, 0, 6), 0);
    due.done("go(1, 0, 7): 1 of 2 is in", x, x.go(1, 0, 7), 0);
    due.refused("go(1, 0, 7): 2 of 2 are in", x, x.go(1, 0, 7), 25);
    due.refused("go with the pass of another person", x, x.go(2, 0, 0), 26);
    due.refused("go from where one is not", x, x.go(0, 0, 0), 27);
    due.refused("go into what is full", x, x.go(2, 0, 2), 28);
    due.is("count(10)", x.count(10), 2);
    due.is("zoneTold(0, 2)", x.zoneTold(0, 2), 2);
    due.is("personTold(2, 3)", x.personTold(2, 3), 0);
  }

  private static void promise19() {
    GamesOffice x = opened();
    x.pass(2, 1, 0, 0);
    x.pass(2, 1, 0, 0);
    x.lose(5, 0);
    due.asked("personTold(2, 0)", x, () -> x.personTold(2, 0), 2);
    due.asked("personTold(2, 1)", x, () -> x.personTold(2, 1), -2);
    due.asked("personTold(2, 2)", x, () -> x.personTold(2, 2), 3);
    due.asked("personTold(1, 2)", x, () -> x.personTold(1, 2), 1);
    due.asked("personTold(2, 3)", x, () -> x.personTold(2, 3), 0);
    x.go(2, 0, 2);
    x.go(2, 1, 2);
    due.asked("personTold(2, 1)", x, () -> x.personTold(2, 1), 1);
    due.asked("personTold(2, 3)", x, () -> x.personTold(2, 3), 2);
    int[][] none = {{-1, 0}, {4, 0}, {0, -1}, {0, 4}, {LEAST, 0}, {GREATEST, 1}, {0, LEAST}, {0, GREATEST}};
    for (int[] p : none) due.asked("personTold(" + p[0] + ", " + p[1] + ")", x, () -> x.personTold(p[0], p[1]), -1);
  }

  private static void promise20() {
    GamesOffice x = opened();
    x.go(0, 0, 0);
    x.go(1, 0, 1);
    x.go(0, 1, 0);
    x.go(0, 2, 0);
    x.go(0, 0, 0);
    int[][] want = {{2, 2, 3, 1}, {1, 0, 1, 1}};
    for (int zone = 0; zone < 2; zone++) {
      for (int what = 0; what < 4; what++) {
        int z = zone;
        int w = what;
        due.asked("zoneTold(" + zone + ", " + what + ")", x, () -> x.zoneTold(z, w), want[zone][what]);
      }
    }
    int[][] none = {{-1, 0}, {2, 0}, {0, -1}, {0, 4}, {LEAST, 0}, {GREATEST, 0}, {0, GREATEST}};
    for (int[] z : none) due.asked("zoneTold(" + z[0] + ", " + z[1] + ")", x, () -> x.zoneTold(z[0], z[1]), -1);
  }

  private static void promise21() {
    GamesOffice x = new GamesOffice();
    x.person(0);
    x.person(0);
    x.pass(1, 3, 307, 11);
    x.pass(0, 2, 1919, 1);
    x.clock(9);
    x.lose(1, 700);
    int[][] want = {{1, 3, 3, 7, 11, -1}, {0, 2, 19, 19, 1, 700}};
    for (int pass = 0; pass < 2; pass++) {
      for (int what = 0; what < 6; what++) {
        int p = pass;
        int w = what;
        due.asked("passTold(" + pass + ", " + what + ")", x, () -> x.passTold(p, w), want[pass][what]);
      }
    }
    int[][] none = {{-1, 0}, {2, 0}, {1, -1}, {1, 6}, {1, 7}, {LEAST, 0}, {GREATEST, 0}, {0, LEAST}};
    for (int[] p : none) due.asked("passTold(" + p[0] + ", " + p[1] + ")", x, () -> x.passTold(p[0], p[1]), -1);
  }

  private static void opens(GamesOffice x, int pass, int door, int moment, int at, int want) {
    String call = "opens(" + pass + ", " + door + ", " + moment + ", " + at + ")";
    due.asked(call, x, () -> x.opens(pass, door, moment, at), want);
  }

  private static void promise22Lost() {
    GamesOffice x = opened();
    x.clock(500);
    x.lose(0, 300);
    opens(x, 0, 0, 299, 500, 0);
    opens(x, 0, 0, 300, 500, 1);
    opens(x, 0, 0, 28799, 28799, 1);
    opens(x, 0, 0, 300, 499, 0);
    opens(x, 0, 2, 300, 500, 1);
    // lost comes ahead of all that is wrong besides
    x.pass(0, 2, 101, 1);
    x.lose(4, 0);
    opens(x, 4, 0, 0, 500, 1);
    opens(x, 4, 0, 0, 499, 2);
  }

  private static void promise22Days() {
    GamesOffice x = opened();
    x.pass(0, 0, 203, 0);
    opens(x, 4, 0, 2879, 0, 2);
    opens(x, 4, 0, 2880, 0, 0);
    opens(x, 4, 0, 5759, 0, 0);
    opens(x, 4, 0, 5760, 0, 2);
    opens(x, 4, 2, 5760, 0, 2);
    opens(x, 4, 2, 5759, 0, 0);
    // DAY and UPGRADE are good on their first day alone, the others on all
    for (int kind = 0; kind < 6; kind++) {
      int pass = x.pass(0, kind, 203, 0);
      boolean isForOneDay = kind == 3 || kind == 4;
      opens(x, pass, 2, 2880, 0, 0);
      opens(x, pass, 2, 4319, 0, 0);
      opens(x, pass, 2, 4320, 0, isForOneDay ? 2 : 0);
      opens(x, pass, 2, 2879, 0, 2);
    }
  }

  private static void promise22Rules() {
    GamesOffice x = new GamesOffice();
    x.person(0);
    x.zone(5);
    x.zone(5);
    x.door(-1, 0);
    x.door(-1, 1);
    for (int kind = 0; kind < 6; kind++) x.pass(0, kind, 19, 0);
    for (int pass = 0; pass < 6; pass++) opens(x, pass, 0, 0, 0, 3);
    x.rule(true, 1, 0, 102, 1000200);
    // ATHLETE lets ATHLETE and STAFF, on its days, in its minutes, into its zone
    int[] want = {3, 0, 3, 2, 2, 0};
    for (int pass = 0; pass < 6; pass++) opens(x, pass, 0, 1540, 0, want[pass]);
    opens(x, 1, 1, 1540, 0, 3);
    opens(x, 1, 0, 1539, 0, 3);
    opens(x, 1, 0, 1640, 0, 0);
    opens(x, 1, 0, 1641, 0, 3);
    opens(x, 1, 0, 100, 0, 3);
    opens(x, 1, 0, 4320 + 150, 0, 3);
    opens(x, 1, 0, 2880 + 150, 0, 0);
    // the one with the greatest number decides; it BARS
    x.clock(10);
    x.rule(false, 5, 0, 19, 1439);
    opens(x, 5, 0, 1540, 10, 3);
    opens(x, 5, 0, 1540, 9, 0);
    opens(x, 1, 0, 1540, 10, 0);
    x.clock(10);
    x.end(1);
    opens(x, 5, 0, 1540, 19, 3);
    opens(x, 5, 0, 1540, 20, 0);
    opens(x, 5, 0, 1540, 28799, 0);
    // told and ended in one moment: never in force
    x.rule(false, 0, 0, 19, 1439);
    x.end(2);
    opens(x, 5, 0, 1540, 20, 0);
    x.rule(true, 0, 1, 19, 1439);
    for (int pass = 0; pass < 6; pass++) opens(x, pass, 1, 0, 20, pass == 2 ? 4 : 0);
    // DAY lets DAY and UPGRADE
    x.rule(false, 0, 1, 19, 1439);
    x.rule(true, 3, 1, 19, 1439);
    for (int pass = 0; pass < 6; pass++) opens(x, pass, 1, 0, 20, pass == 3 || pass == 4 ? 0 : 3);
  }

  private static void promise22Hosts() {
    GamesOffice x = opened();
    x.pass(0, 2, 19, 1);
    x.pass(2, 2, 19, 2);
    opens(x, 4, 0, 0, 0, 4);
    x.go(1, 0, 1);
    opens(x, 4, 0, 0, 0, 0);
    opens(x, 4, 1, 0, 0, 4);
    // who is where is as it is now, whatever the moments are
    opens(x, 4, 0, 28799, 28799, 0);
    x.go(1, 1, 1);
    opens(x, 4, 0, 0, 0, 4);
    opens(x, 4, 1, 0, 0, 0);
    opens(x, 4, 2, 0, 0, 0);
    x.go(1, 2, 1);
    opens(x, 4, 1, 0, 0, 4);
    // one's own host is still outside
    opens(x, 5, 0, 0, 0, 4);
    // the host counts for a GUEST alone
    x.pass(0, 3, 19, 1);
    opens(x, 6, 0, 0, 0, 0);
  }

  private static void promise22Upgrades() {
    GamesOffice x = new GamesOffice();
    for (int i = 0; i < 4; i++) x.person(i);
    x.zone(5);
    x.zone(0);
    x.door(-1, 0);
    x.door(-1, 1);
    x.door(0, -1);
    x.rule(true, 0, 0, 19, 1439);
    x.rule(true, 0, 1, 19, 1439);
    for (int i = 0; i < 4; i++) x.pass(i, 0, 19, 0);
    int upgrade = x.pass(3, 4, 19, 0);
    int day = x.pass(3, 3, 19, 0);
    // half of 5, cut, is 2; half of 0 is 0
    opens(x, upgrade, 0, 0, 0, 0);
    opens(x, upgrade, 1, 0, 0, 0);
    x.go(0, 0, 0);
    x.go(1, 0, 1);
    opens(x, upgrade, 0, 0, 0, 0);
    x.go(2, 0, 2);
    opens(x, upgrade, 0, 0, 0, 5);
    opens(x, upgrade, 2, 0, 0, 0);
    opens(x, day, 0, 0, 0, 0);
    due.asked("may(3, 0, upgrade)", x, () -> x.may(3, 0, upgrade), 5);
    x.go(0, 2, 0);
    opens(x, upgrade, 0, 0, 0, 0);
  }

  private static void promise22Outside() {
    GamesOffice x = new GamesOffice();
    x.person(0);
    x.zone(0);
    x.door(0, -1);
    x.pass(0, 2, 0, 0);
    x.pass(0, 4, 0, 0);
    x.rule(false, 0, 0, 19, 1439);
    opens(x, 0, 0, 0, 0, 0);
    opens(x, 1, 0, 0, 0, 0);
    opens(x, 1, 0, 1440, 0, 2);
    x.lose(1, 1440);
    opens(x, 1, 0, 1440, 0, 1);
  }

  private static void promise22NoSuch() {
    GamesOffice x = opened();
    int[][] none = {{-1, 0, 0, 0}, {4, 0, 0, 0}, {0, -1, 0, 0}, {0, 4, 0, 0}, {0, 0, -1, 0}, {0, 0, 28800, 0},
        {0, 0, 0, -1}, {0, 0, 0, 28800}, {LEAST, 0, 0, 0}, {0, GREATEST, 0, 0}, {0, 0, LEAST, 0}, {0, 0, 0, GREATEST}};
    for (int[] o : none) opens(x, o[0], o[1], o[2], o[3], -1);
    opens(x, 3, 3, 28799, 28799, 0);
  }

  private static void why(GamesOffice x, int pass, int zone, int moment, int at, int want) {
    String call = "why(" + pass + ", " + zone + ", " + moment + ", " + at + ")";
    due.asked(call, x, () -> x.why(pass, zone, moment, at), want);
  }

  private static void promise23() {
    GamesOffice x = new GamesOffice();
    x.person(0);
    x.zone(1);
    x.zone(1);
    x.pass(0, 5, 101, 0);
    x.pass(0, 2, 19, 0);
    why(x, 0, 0, 0, 0, -1);
    x.rule(true, 0, 0, 19, 1439);
    x.rule(false, 1, 0, 19, 600700);
    x.rule(true, 5, 1, 102, 1439);
    x.clock(5);
    x.rule(true, 2, 0, 0, 1439);
    // whether the pass is good on the day does not matter
    why(x, 0, 0, 0, 5, 0);
    why(x, 0, 0, 60, 5, 1);
    why(x, 0, 0, 700, 5, 1);
    why(x, 0, 0, 59, 5, 0);
    why(x, 0, 0, 701, 5, 0);
    why(x, 0, 1, 1440, 0, 2);
    why(x, 0, 1, 1439, 0, -1);
    why(x, 0, 1, 4319, 0, 2);
    why(x, 0, 1, 4320, 0, -1);
    why(x, 1, 0, 0, 5, 3);
    why(x, 1, 0, 0, 4, 0);
    why(x, 1, 0, 1440, 5, 0);
    why(x, 1, 1, 1440, 5, -1);
    x.clock(5);
    x.end(1);
    why(x, 0, 0, 60, 9, 1);
    why(x, 0, 0, 60, 10, 0);
    int[][] none = {{-1, 0, 0, 0}, {2, 0, 0, 0}, {0, -1, 0, 0}, {0, 2, 0, 0}, {0, 0, -1, 0}, {0, 0, 28800, 0},
        {0, 0, 0, -1}, {0, 0, 0, 28800}, {GREATEST, 0, 0, 0}, {0, LEAST, 0, 0}};
    for (int[] w : none) why(x, w[0], w[1], w[2], w[3], -1);
    why(x, 0, 0, 28799, 28799, 0);
  }

  private static void may(GamesOffice x, int person, int door, int pass, int want) {
    due.asked("may(" + person + ", " + door + ", " + pass + ")", x, () -> x.may(person, door, pass), want);
  }

  private static void promise24() {
    GamesOffice x = opened();
    may(x, 0, 0, 0, 0);
    may(x, 1, 0, 0, 6);
    may(x, 0, 1, 0, 7);
    may(x, 1, 1, 0, 6);
    x.go(0, 0, 0);
    x.go(1, 0, 1);
    may(x, 2, 0, 2, 8);
    may(x, 0, 0, 0, 7);
    may(x, 2, 1, 2, 7);
    may(x, 0, 1, 0, 0);
    may(x, 0, 2, 0, 7);
    // a pass may be taken by its day at THE MOMENT
    x.pass(0, 0, 1, 0);
    x.pass(0, 0, 101, 0);
    may(x, 0, 1, 4, 0);
    may(x, 0, 1, 5, 2);
    x.clock(1440);
    may(x, 0, 1, 5, 0);
    x.clock(1440);
    may(x, 0, 1, 4, 2);
    x.lose(0, 2881);
    may(x, 0, 1, 0, 0);
    x.clock(1);
    may(x, 0, 1, 0, 1);
    x.rule(false, 0, 1, 19, 1439);
    may(x, 1, 1, 1, 3);
    int[][] none = {{-1, 0, 0}, {4, 0, 0}, {0, -1, 0}, {0, 4, 0}, {0, 0, -1}, {0, 0, 6}, {LEAST, 0, 0}, {0, GREATEST, 0}};
    for (int[] m : none) may(x, m[0], m[1], m[2], -1);
  }
}
