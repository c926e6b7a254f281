import java.util.ArrayList;
import java.util.Arrays;
import java.util.Collections;
import java.util.List;

/**
 * The document once more, in the slowest and plainest way: minute by minute, every order, every rooming,
 * KINDS as Java classes. ModelTest holds the program against it.
 */
public final class Model {
  private static final int OUTSIDE = -1;

  private State now = new State();
  private State image = null;
  private int backs = 0;
  private int status = 0;
  private final Object[] sheets = new Object[4];
  private List<Integer> trace = new ArrayList<>();

  // what was worked out last, by the words that it was worked out from
  private String plannedFor = null;
  private Plan plan = null;
  private String roomedFor = null;
  private int[] rooming = null;
  private int roomingWorth = 0;

  /** All that an IMAGE keeps. */
  private static final class State {
    int moment = 0;
    int seats = 4;
    List<int[]> persons = new ArrayList<>();   // nation, place, times through a door
    List<int[]> zones = new ArrayList<>();     // holds, came, went
    List<int[]> doors = new ArrayList<>();     // from, to
    List<int[]> passes = new ArrayList<>();    // person, kind, first, last, number, lost from, lost told
    List<int[]> rules = new ArrayList<>();     // lets, kind, zone, days, minutes, told, ended
    List<int[]> units = new ArrayList<>();     // hall, length, persons, behind, rest, light
    List<int[]> rooms = new ArrayList<>();     // beds
    List<int[]> groups = new ArrayList<>();    // nation, many, first, last
    List<int[]> results = new ArrayList<>();   // persons
    List<int[]> stripped = new ArrayList<>();  // result, person

    State copy() {
      State s = new State();
      s.moment = moment;
      s.seats = seats;
      s.persons = copy(persons);
      s.zones = copy(zones);
      s.doors = copy(doors);
      s.passes = copy(passes);
      s.rules = copy(rules);
      s.units = copy(units);
      s.rooms = copy(rooms);
      s.groups = copy(groups);
      s.results = copy(results);
      s.stripped = copy(stripped);
      return s;
    }

    private static List<int[]> copy(List<int[]> rows) {
      List<int[]> copies = new ArrayList<>();
      for (int[] row : rows) copies.add(row.clone());
      return copies;
    }
  }

  private int ok(int answer) {
    status = 0;
    return answer;
  }

  private int no(int why) {
    status = why;
    return -1;
  }

  private static boolean in(int v, int least, int most) {
    return least <= v && v <= most;
  }

  private static boolean days(int days) {
    return in(days, 0, 1919) && in(days / 100, 0, 19) && in(days % 100, 0, 19) && days / 100 <= days % 100;
  }

  private int add(boolean told, List<int[]> rows, int most, int... row) {
    if (!told) return no(1);
    if (rows.size() == most) return no(2);
    rows.add(row);
    return ok(rows.size() - 1);
  }

  public int person(int nation) {
    return add(in(nation, 0, 7), now.persons, 12, nation, OUTSIDE, 0);
  }

  public int zone(int holds) {
    return add(in(holds, 0, 99), now.zones, 6, holds, 0, 0);
  }

  public int door(int from, int to) {
    int zones = now.zones.size();
    return add(in(from, -1, zones - 1) && in(to, -1, zones - 1) && from != to, now.doors, 12, from, to);
  }

  private boolean passTold(int person, int kind, int days, int number) {
    int persons = now.persons.size();
    if (!in(person, 0, persons - 1) || !in(kind, 0, 5) || !days(days) || !in(number, 0, 11)) return false;
    return kind != 2 || number < persons;
  }

  public int pass(int person, int kind, int days, int number) {
    boolean told = passTold(person, kind, days, number);
    return add(told, now.passes, 20, person, kind, days / 100, days % 100, number, -1, -1);
  }

  public int lose(int pass, int from) {
    if (!in(pass, 0, now.passes.size() - 1) || !in(from, 0, 28799)) return no(1);
    int[] p = now.passes.get(pass);
    if (p[5] != -1) return no(3);
    p[5] = from;
    p[6] = now.moment;
    return ok(1);
  }

  public int rule(boolean lets, int kind, int zone, int days, int minutes) {
    boolean told = in(kind, 0, 5) && in(zone, 0, now.zones.size() - 1) && days(days) && in(minutes, 0, 14391439)
        && in(minutes % 10000, 0, 1439) && minutes / 10000 <= minutes % 10000;
    return add(told, now.rules, 12, lets ? 1 : 0, kind, zone, days, minutes, now.moment, Integer.MAX_VALUE);
  }

  public int end(int rule) {
    if (!in(rule, 0, now.rules.size() - 1)) return no(1);
    int[] r = now.rules.get(rule);
    if (r[6] != Integer.MAX_VALUE) return no(3);
    r[6] = now.moment;
    return ok(1);
  }

  public int clock(int n) {
    if (!in(n, 0, 5000)) return no(1);
    if (now.moment + n > 28799) return no(2);
    now.moment += n;
    return ok(now.moment);
  }

  public int go(int person, int door, int pass) {
    int why = may(person, door, pass);
    if (why == -1) return no(1);
    if (why > 0) return no(20 + why);
    int[] p = now.persons.get(person);
    int[] d = now.doors.get(door);
    if (d[0] != OUTSIDE) now.zones.get(d[0])[2]++;
    if (d[1] != OUTSIDE) now.zones.get(d[1])[1]++;
    p[1] = d[1];
    p[2]++;
    return ok(d[1] == OUTSIDE ? -2 : d[1]);
  }

  public int unit(int hall, int length, int persons, int behind, boolean light) {
    boolean told = in(hall, 0, 3) && in(length, 1, 240) && in(persons, 0, (1 << now.persons.size()) - 1)
        && (behind == -1 || behind >= 0 && behind % 10 < now.units.size() && behind / 10 <= 200);
    int ahead = behind < 0 ? -1 : behind % 10;
    int rest = behind < 0 ? 0 : behind / 10;
    return add(told, now.units, 6, hall, length, persons, ahead, rest, light ? 1 : 0);
  }

  public int seats(int n) {
    if (!in(n, 1, 12)) return no(1);
    int before = now.seats;
    now.seats = n;
    return ok(before);
  }

  public int room(int beds) {
    return add(in(beds, 1, 9), now.rooms, 4, beds);
  }

  public int group(int nation, int many, int days) {
    return add(in(nation, 0, 7) && in(many, 1, 9) && days(days), now.groups, 6, nation, many, days / 100, days % 100);
  }

  public int result(int row) {
    if (row <= 0) return no(1);
    List<Integer> persons = new ArrayList<>();
    for (int rest = row; rest > 0; rest /= 13) persons.add(rest % 13 - 1);
    boolean told = persons.size() <= 5 && persons.stream().distinct().count() == persons.size();
    for (int person : persons) told &= in(person, 0, now.persons.size() - 1);
    return add(told, now.results, 10, persons.stream().mapToInt(p -> p).toArray());
  }

  private boolean isStripped(int result, int person) {
    return now.stripped.stream().anyMatch(s -> s[0] == result && s[1] == person);
  }

  private List<Integer> places(int result) {
    List<Integer> places = new ArrayList<>();
    for (int person : now.results.get(result)) if (!isStripped(result, person)) places.add(person);
    return places;
  }

  public int strip(int result, int person) {
    if (!in(result, 0, now.results.size() - 1)) return no(1);
    if (Arrays.stream(now.results.get(result)).noneMatch(p -> p == person)) return no(1);
    if (isStripped(result, person)) return no(3);
    int place = places(result).indexOf(person);
    now.stripped.add(new int[] {result, person});
    return ok(place);
  }

  public int image() {
    image = now.copy();
    return ok(1);
  }

  public int back() {
    if (backs == 10) return no(2);
    if (image == null) return no(3);
    now = image.copy();
    backs++;
    return ok(now.moment);
  }

  public int personTold(int person, int what) {
    if (!in(person, 0, now.persons.size() - 1)) return -1;
    int[] p = now.persons.get(person);
    if (what == 0) return p[0];
    if (what == 1) return p[1] == OUTSIDE ? -2 : p[1];
    if (what == 2) return (int) now.passes.stream().filter(q -> q[0] == person).count();
    return what == 3 ? p[2] : -1;
  }

  private int inside(int zone) {
    return (int) now.persons.stream().filter(p -> p[1] == zone).count();
  }

  public int zoneTold(int zone, int what) {
    if (!in(zone, 0, now.zones.size() - 1)) return -1;
    int[] z = now.zones.get(zone);
    if (what == 0) return z[0];
    if (what == 1) return inside(zone);
    return what == 2 ? z[1] : what == 3 ? z[2] : -1;
  }

  public int passTold(int pass, int what) {
    if (!in(pass, 0, now.passes.size() - 1) || !in(what, 0, 5)) return -1;
    return now.passes.get(pass)[what];
  }

  private boolean asks(int pass, int moment, int at) {
    return in(pass, 0, now.passes.size() - 1) && in(moment, 0, 28799) && in(at, 0, 28799);
  }

  public int opens(int pass, int door, int moment, int at) {
    if (!asks(pass, moment, at) || !in(door, 0, now.doors.size() - 1)) return -1;
    int[] p = now.passes.get(pass);
    int to = now.doors.get(door)[1];
    if (p[5] != -1 && p[6] <= at && p[5] <= moment) return 1;
    int last = p[1] == 3 || p[1] == 4 ? p[2] : p[3];
    if (!in(moment / 1440, p[2], last)) return 2;
    if (to == OUTSIDE) return 0;
    int rule = why(pass, to, moment, at);
    if (rule == -1 || now.rules.get(rule)[0] == 0) return 3;
    if (p[1] == 2 && now.persons.get(p[4])[1] != to) return 4;
    return p[1] == 4 && inside(to) > now.zones.get(to)[0] / 2 ? 5 : 0;
  }

  public int why(int pass, int zone, int moment, int at) {
    if (!asks(pass, moment, at) || !in(zone, 0, now.zones.size() - 1)) return -1;
    int decides = -1;
    for (int i = 0; i < now.rules.size(); i++) {
      int[] r = now.rules.get(i);
      boolean kind = kindClass(r[1]).isInstance(kindOf(pass));
      boolean day = in(moment / 1440, r[3] / 100, r[3] % 100);
      boolean minute = in(moment % 1440, r[4] / 10000, r[4] % 10000);
      if (kind && r[2] == zone && day && minute && r[5] <= at && at < r[6]) decides = i;
    }
    return decides;
  }

  public int may(int person, int door, int pass) {
    if (!in(person, 0, now.persons.size() - 1) || !in(pass, 0, now.passes.size() - 1)) return -1;
    int opens = opens(pass, door, now.moment, now.moment);
    if (opens != 0) return opens;
    int[] d = now.doors.get(door);
    if (now.passes.get(pass)[0] != person) return 6;
    if (now.persons.get(person)[1] != d[0]) return 7;
    return d[1] != OUTSIDE && inside(d[1]) >= now.zones.get(d[1])[0] ? 8 : 0;
  }

  private static final class Plan {
    List<Integer> order;
    int[] begins;
    int end = 0;
  }

  /** The PLAN for an order, or null. */
  private Plan planFor(List<Integer> order) {
    Plan plan = new Plan();
    plan.order = new ArrayList<>(order);
    plan.begins = new int[now.units.size()];
    Arrays.fill(plan.begins, -1);
    for (int unit : order) {
      int minute = 360;
      while (minute <= 1440 && !canBegin(plan, unit, minute)) minute++;
      if (minute > 1440) return null;
      plan.begins[unit] = minute;
      plan.end = Math.max(plan.end, minute + now.units.get(unit)[1]);
    }
    return plan;
  }

  private boolean canBegin(Plan plan, int unit, int minute) {
    int[] u = now.units.get(unit);
    int end = minute + u[1];
    if (end > (u[5] == 1 ? 1200 : 1440)) return false;
    if (u[3] != -1) {
      if (plan.begins[u[3]] == -1) return false;
      if (minute < plan.begins[u[3]] + now.units.get(u[3])[1] + u[4]) return false;
    }
    for (int other = 0; other < now.units.size(); other++) {
      int[] o = now.units.get(other);
      int oBegin = plan.begins[other];
      if (oBegin == -1) continue;
      boolean apart = minute >= oBegin + o[1] || oBegin >= end;
      boolean wellApart = minute >= oBegin + o[1] + 30 || oBegin >= end + 30;
      if (o[0] == u[0] && !apart || (o[2] & u[2]) != 0 && !wellApart) return false;
    }
    return true;
  }

  private Plan thePlan() {
    StringBuilder words = new StringBuilder();
    for (int[] unit : now.units) words.append(Arrays.toString(unit));
    if (words.toString().equals(plannedFor)) return plan;
    List<Plan> plans = new ArrayList<>();
    everyOrder(new ArrayList<>(), plans);
    plan = null;
    for (Plan p : plans) if (plan == null || p.end < plan.end) plan = p;
    plannedFor = words.toString();
    return plan;
  }

  private void everyOrder(List<Integer> order, List<Plan> plans) {
    if (order.size() == now.units.size()) {
      Plan p = planFor(order);
      if (p != null) plans.add(p);
    }
    for (int unit = 0; unit < now.units.size(); unit++) {
      if (order.contains(unit)) continue;
      order.add(unit);
      everyOrder(order, plans);
      order.remove(order.size() - 1);
    }
  }

  public int begins(int unit) {
    Plan p = thePlan();
    if (p == null) return -1;
    if (unit == -1) return p.end;
    return in(unit, 0, p.begins.length - 1) ? p.begins[unit] : -1;
  }

  public int order(int i) {
    Plan p = thePlan();
    return p != null && in(i, 0, p.begins.length - 1) ? p.order.get(i) : -1;
  }

  public int planned(int order, int unit) {
    int many = now.units.size();
    if (order < 0 || !in(unit, 0, many - 1)) return -1;
    List<Integer> units = new ArrayList<>();
    int rest = order;
    for (int i = 0; i < many; i++) {
      units.add(rest % 6);
      rest /= 6;
    }
    List<Integer> sorted = new ArrayList<>(units);
    Collections.sort(sorted);
    for (int i = 0; i < many; i++) if (sorted.get(i) != i) return -1;
    if (rest != 0) return -1;
    Plan p = planFor(units);
    return p == null ? -1 : p.begins[unit];
  }

  public int fleet() {
    Plan p = thePlan();
    if (p == null) return -1;
    int most = 0;
    for (int minute = 0; minute < 1500; minute++) {
      int busy = 0;
      for (int unit = 0; unit < now.units.size(); unit++) {
        int[] u = now.units.get(unit);
        int there = p.begins[unit] - 20;
        int way = 10 + 5 * u[0];
        int trips = 0;
        for (int brought = 0; brought < Integer.bitCount(u[2]); brought += now.seats) trips++;
        if (there - way <= minute && minute < there + way) busy += trips;
      }
      most = Math.max(most, busy);
    }
    return most;
  }

  private void room() {
    StringBuilder words = new StringBuilder();
    for (int[] room : now.rooms) words.append(Arrays.toString(room));
    words.append('|');
    for (int[] group : now.groups) words.append(Arrays.toString(group));
    if (words.toString().equals(roomedFor)) return;
    int groups = now.groups.size();
    int rooms = now.rooms.size();
    int all = 1;
    for (int i = 0; i < groups; i++) all *= rooms + 1;
    roomingWorth = -1;
    for (int code = 0; code < all; code++) {
      // group 0 is the highest digit, so that the codes come in the order of the document
      int[] tried = new int[groups];
      int rest = code;
      for (int g = groups - 1; g >= 0; g--) {
        tried[g] = rest % (rooms + 1);
        rest /= rooms + 1;
      }
      int worth = worth(tried);
      if (worth > roomingWorth) {
        roomingWorth = worth;
        rooming = tried;
      }
    }
    roomedFor = words.toString();
  }

  /** BEDS by DAYS of a rooming (the number behind the last room: none), or -1 if it can't be. */
  private int worth(int[] tried) {
    int worth = 0;
    for (int day = 0; day < 20; day++) {
      for (int room = 0; room < now.rooms.size(); room++) {
        int many = 0;
        int nation = -1;
        for (int g = 0; g < tried.length; g++) {
          int[] group = now.groups.get(g);
          if (tried[g] != room || !in(day, group[2], group[3])) continue;
          if (nation != -1 && nation != group[0]) return -1;
          nation = group[0];
          many += group[1];
        }
        if (many > now.rooms.get(room)[0]) return -1;
        worth += many;
      }
    }
    return worth;
  }

  public int rooming(int group) {
    room();
    if (group == -1) return roomingWorth;
    if (!in(group, 0, now.groups.size() - 1)) return -1;
    return rooming[group] == now.rooms.size() ? -1 : rooming[group];
  }

  public int placed(int result, int i) {
    if (!in(result, 0, now.results.size() - 1)) return -1;
    List<Integer> places = places(result);
    return in(i, 0, places.size() - 1) ? places.get(i) : -1;
  }

  public int medals(int nation, int what) {
    if (!in(nation, 0, 7) || !in(what, 0, 3)) return -1;
    int[][] won = new int[8][3];
    for (int result = 0; result < now.results.size(); result++) {
      for (int place = 0; place < 3; place++) {
        int person = placed(result, place);
        if (person != -1) won[now.persons.get(person)[0]][place]++;
      }
    }
    if (what < 3) return won[nation][what];
    List<Integer> table = new ArrayList<>();
    for (int n = 0; n < 8; n++) table.add(n);
    // sorting keeps the lesser number first among like ones
    table.sort((a, b) -> Arrays.compare(won[b], won[a]));
    return table.indexOf(nation);
  }

  public int count(int what) {
    int[] counts = {now.persons.size(), now.zones.size(), now.doors.size(), now.passes.size(), now.rules.size(),
        now.moment, now.units.size(), now.rooms.size(), now.groups.size(), now.results.size(), inside(OUTSIDE),
        now.seats, trace.size()};
    return in(what, 0, counts.length - 1) ? counts[what] : -1;
  }

  /** A PASS as an object of the class of its KIND. */
  private static class Pass {
    final List<Integer> ran = new ArrayList<>();
    int kind;
    int n;
    int d;
    int t;

    int open(int x) {
      ran.add(10);
      return x + d;
    }

    int end(int x) {
      ran.add(11);
      return open(x) * 2;
    }

    int count(int x) {
      ran.add(12);
      return x - n;
    }

    int tell(int x) {
      ran.add(13);
      return end(x) ^ count(x);
    }
  }

  private static class Athlete extends Pass {
    @Override int open(int x) {
      ran.add(20);
      return super.open(x) + t;
    }

    @Override int tell(int x) {
      ran.add(21);
      return super.tell(x) - 1;
    }
  }

  private static final class Guest extends Pass {
    @Override int count(int x) {
      ran.add(30);
      return super.count(x) * 3;
    }
  }

  private static class Day extends Pass {
    @Override int end(int x) {
      ran.add(40);
      return super.end(x) + count(0);
    }

    @Override int count(int x) {
      ran.add(41);
      return super.count(x + d);
    }
  }

  private static final class Upgrade extends Day {
    @Override int open(int x) {
      ran.add(50);
      return super.open(x) ^ t;
    }

    @Override int end(int x) {
      ran.add(51);
      return super.end(x) - open(1);
    }
  }

  private static final class Staff extends Athlete {
    @Override int tell(int x) {
      ran.add(60);
      return super.tell(x + n);
    }

    @Override int open(int x) {
      ran.add(61);
      return super.open(x - t);
    }
  }

  private static Class<?> kindClass(int kind) {
    Class<?>[] classes = {Pass.class, Athlete.class, Guest.class, Day.class, Upgrade.class, Staff.class};
    return classes[kind];
  }

  /** null: there is no such PASS. */
  private Pass kindOf(int pass) {
    if (!in(pass, 0, now.passes.size() - 1)) return null;
    Pass[] fresh = {new Pass(), new Athlete(), new Guest(), new Day(), new Upgrade(), new Staff()};
    int[] told = now.passes.get(pass);
    Pass p = fresh[told[1]];
    p.kind = told[1];
    p.n = pass;
    p.d = told[2];
    p.t = told[4];
    return p;
  }

  public int act(int pass, int act, int x) {
    Pass p = kindOf(pass);
    if (p == null || !in(act, 0, 3)) return no(1);
    int answer = act == 0 ? p.open(x) : act == 1 ? p.end(x) : act == 2 ? p.count(x) : p.tell(x);
    trace = p.ran.subList(0, Math.min(50, p.ran.size()));
    return ok(answer);
  }

  public int trace(int i) {
    return in(i, 0, trace.size() - 1) ? trace.get(i) : -1;
  }

  public int sheet(int sheet, int sort, int n) {
    if (!in(sheet, 0, 3) || !in(sort, -1, 2) || sort != -1 && !in(n, 0, 40)) return no(1);
    sheets[sheet] = sort == -1 ? null : sort == 0 ? new byte[n] : sort == 1 ? new short[n] : (Object) new int[n];
    return ok(1);
  }

  private static int length(Object sheet) {
    return java.lang.reflect.Array.getLength(sheet);
  }

  private static int number(Object sheet, int i) {
    return ((Number) java.lang.reflect.Array.get(sheet, i)).intValue();
  }

  private static int sortOf(Object sheet) {
    return sheet instanceof byte[] ? 0 : sheet instanceof short[] ? 1 : 2;
  }

  public int cell(int sheet, int i, int v) {
    if (!in(sheet, 0, 3) || !in(v, -2000, 2000)) return no(1);
    Object s = sheets[sheet];
    if (s == null) return no(10);
    if (!in(i, 0, length(s) - 1)) return no(12);
    if (s instanceof byte[]) ((byte[]) s)[i] = (byte) v;
    if (s instanceof short[]) ((short[]) s)[i] = (short) v;
    if (s instanceof int[]) ((int[]) s)[i] = v;
    return ok(1);
  }

  public int row(int sheet, int sort, int i) {
    if (!in(sheet, 0, 3) || !in(sort, 0, 2)) return no(1);
    if (now.passes.size() == 20) return no(2);
    Object s = sheets[sheet];
    if (s == null) return no(10);
    if (sortOf(s) != sort) return no(11);
    long last = (long) i + 3;
    if (i < 0 || last >= length(s)) return no(12);
    int person = number(s, i);
    int kind = number(s, i + 1);
    int days = number(s, i + 2);
    int t = number(s, i + 3);
    if (!passTold(person, kind, days, t)) return no(3);
    return pass(person, kind, days, t);
  }

  public int forge(int what, int n, int k) {
    if (!in(what, 0, 6) || !in(n, -100, 100) || !in(k, -100, 100)) return no(1);
    int pass = (k + 100) % 20;
    Object sheet = sheets[(k + 100) % 4];
    Pass p = kindOf(pass);
    switch (what) {
      case 0:
        if (p == null) return no(10);
        return kindClass((n + 102) % 6).isInstance(p) ? ok(p.kind) : no(11);
      case 1:
        return n < 0 ? no(13) : ok(n);
      case 2:
        if (sheet == null) return no(10);
        if (!(sheet instanceof short[])) return no(11);
        return in(n, 0, length(sheet) - 1) ? ok(number(sheet, n)) : no(12);
      case 3:
        if (sheet == null) return no(10);
        if (!(sheet instanceof byte[])) return no(11);
        if (n < 0 || 1 + n > length(sheet) || n + n > 6) return no(12);
        int sum = 0;
        for (int i = 1; i <= n; i++) sum += number(sheet, i);
        return ok(sum);
      case 4:
        if (p == null) return ok(0);
        return p instanceof Day ? ok(p.kind) : no(14);
      case 5:
        return n == 0 ? no(15) : ok(1000 / n);
      default:
        return n % 2 == 0 ? no(10) : ok(1);
    }
  }

  public int status() {
    return status;
  }
}
