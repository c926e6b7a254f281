import java.lang.reflect.Method;
import java.util.ArrayList;
import java.util.Arrays;
import java.util.List;
import java.util.Random;

/** Runs of calls with a fixed seed, each answered by the program and by the model. */
public final class ModelTest {
  private static final int RUNS = 1200;
  // each is followed by status(): the 512 calls that an object is used for
  private static final int CALLS = 256;
  private static final int[] EDGES = {Integer.MIN_VALUE, Integer.MAX_VALUE, Integer.MAX_VALUE - 1, -2, -1, 0, 1, 28799,
      28800, 1439, 1440, 1919, 1920, 2000, 5000, 5001, 14391439, 14400000, 371293, 46656};

  private static final class Run {
    final GamesOffice program = new GamesOffice();
    final Model model = new Model();
    final List<String> calls = new ArrayList<>();
    final Random random;
    final int opening;
    int status = 0;

    Run(int seed) {
      random = new Random(seed);
      opening = seed % 3;
    }

    int to(int most) {
      return random.nextInt(most + 1);
    }

    int days() {
      int first = to(2) == 0 ? to(19) : 0;
      int last = to(9) == 0 ? to(21) : Math.min(19, first + to(12));
      return 100 * first + last;
    }

    int minutes() {
      int first = to(3) == 0 ? to(1439) : to(3);
      return 10000 * first + (to(3) == 0 ? to(1441) : 1439 - to(5));
    }

    /** A row of a result, mostly right. */
    int row() {
      int row = 0;
      int base = 1;
      int from = to(5);
      for (int i = 0; i <= to(5); i++) {
        row += base * (1 + (to(9) == 0 ? to(11) : (from + i) % 6));
        base *= 13;
      }
      return row;
    }

    int order() {
      List<Integer> units = new ArrayList<>();
      int many = model.count(6);
      for (int i = 0; i < many; i++) units.add(to(units.size()), i);
      int order = 0;
      for (int i = many - 1; i >= 0; i--) order = order * 6 + units.get(i);
      return order;
    }

    int moment() {
      return to(2) == 0 ? to(28799) : Math.max(0, Math.min(28799, model.count(5) + to(4) - 2));
    }

    /** Something that is there, mostly: what is the number of its count(). */
    int some(int what) {
      return to(11) == 0 ? to(21) - 1 : to(Math.max(0, model.count(what) - 1));
    }

    int fits(String name, int i) {
      switch (name + i) {
        case "person0": case "group0": case "medals0": return to(7);
        case "zone0": return to(3) == 0 ? to(100) : to(4);
        case "door0": case "door1": return some(1) - (to(2) == 0 ? 1 : 0);
        case "pass0": case "go0": case "may0": case "personTold0": case "strip1": return some(0);
        case "pass1": case "forge0": return to(6);
        case "rule1": return to(1) * to(6);
        case "pass2": case "rule3": case "group2": return days();
        case "pass3": return to(2) == 0 ? to(11) : some(0);
        case "lose0": case "passTold0": case "opens0": case "why0": case "go2": case "may2": case "act0": return some(3);
        case "lose1": case "opens2": case "opens3": case "why2": case "why3": return moment();
        case "rule2": case "zoneTold0": case "why1": return some(1);
        case "rule4": return minutes();
        case "end0": return some(4);
        case "clock0": return to(3) == 0 ? to(5000) : to(3);
        case "go1": case "may1": case "opens1": return some(2);
        case "unit0": case "seats0": return name.equals("unit") ? to(3) : 1 + to(11);
        case "unit1": return 1 + to(to(1) == 0 ? 239 : 60);
        case "unit2": return to(2) == 0 ? to((1 << model.count(0)) - 1) : 1 << to(5);
        case "unit3": return to(1) == 0 ? -1 : some(6) + 10 * to(to(1) == 0 ? 200 : 60);
        case "room0": case "group1": return 1 + to(to(1) == 0 ? 3 : 8);
        case "result0": return row();
        case "strip0": case "placed0": return some(9);
        case "begins0": case "planned1": return some(6) - (to(3) == 0 ? 1 : 0);
        case "order0": return some(6);
        case "planned0": return order();
        case "rooming0": return some(8) - (to(3) == 0 ? 1 : 0);
        case "count0": return to(13);
        case "act2": return to(1) == 0 ? random.nextInt() : to(40);
        case "trace0": return to(13);
        case "sheet0": case "cell0": case "row0": return to(3);
        case "sheet1": return to(3) - 1;
        case "row1": return to(2);
        case "sheet2": return to(40);
        case "cell1": case "row2": return to(9);
        case "cell2": return to(1) == 0 ? to(4) : to(4000) - 2000;
        case "forge1": return to(1) == 0 ? to(12) - 3 : to(200) - 100;
        case "forge2": return to(1) == 0 ? to(22) - 3 : to(200) - 100;
        default: return to(6) - (to(6) == 0 ? 1 : 0);
      }
    }

    int argument(String name, int i) {
      int kind = to(39);
      if (kind == 0) return EDGES[to(EDGES.length - 1)];
      if (kind == 1) return random.nextInt();
      if (kind == 2) return to(30) - 4;
      return fits(name, i);
    }

    /** A go() of a PERSON with a PASS of its own through a DOOR where it is, mostly. */
    private Object[] passing() {
      int pass = some(3);
      int person = to(9) == 0 ? some(0) : model.passTold(pass, 0);
      int door = some(2);
      for (int i = 0; i < 8 && model.may(person, door, pass) == 7; i++) door = some(2);
      return new Object[] {person, door, pass};
    }

    Object[] arguments(Method method) {
      if (method.getName().equals("go") && to(3) > 0) return passing();
      Class<?>[] types = method.getParameterTypes();
      Object[] arguments = new Object[types.length];
      for (int i = 0; i < types.length; i++) {
        arguments[i] = types[i] == boolean.class ? (Object) (to(2) > 0) : (Object) argument(method.getName(), i);
      }
      return arguments;
    }

    boolean next(List<Method> methods, int at) throws ReflectiveOperationException {
      String words = opening == 1 ? gates(this, at) : opening == 2 ? plans(this, at) : null;
      if (words == null) {
        Method method = pick(methods, this, at);
        return call(method, arguments(method));
      }
      String[] word = words.split(" ");
      for (Method method : methods) {
        if (method.getName().equals(word[0])) return call(method, spoken(word));
      }
      return false;
    }

    private static Object[] spoken(String[] word) {
      Object[] arguments = new Object[word.length - 1];
      for (int i = 1; i < word.length; i++) {
        boolean isTruth = word[i].equals("true") || word[i].equals("false");
        arguments[i - 1] = isTruth ? (Object) Boolean.valueOf(word[i]) : (Object) Integer.valueOf(word[i]);
      }
      return arguments;
    }

    private boolean call(Method method, Object... arguments) throws ReflectiveOperationException {
      Class<?>[] types = method.getParameterTypes();
      Object want = Model.class.getMethod(method.getName(), types).invoke(model, arguments);
      Object got = method.invoke(program, arguments);
      String call = method.getName() + Arrays.toString(arguments);
      status = program.status();
      calls.add(call + " = " + got + " (" + want + "), status " + status + " (" + model.status() + ")");
      return got.equals(want) && status == model.status();
    }
  }

  private static List<Method> methods() {
    List<Method> methods = new ArrayList<>();
    for (Method method : GamesOffice.class.getDeclaredMethods()) {
      if (java.lang.reflect.Modifier.isPublic(method.getModifiers())) methods.add(method);
    }
    // the machine gives them in no order that is told
    methods.sort((a, b) -> a.getName().compareTo(b.getName()));
    return methods;
  }

  /** How often a call comes: setting up is common, what takes back or shuts is rare. */
  private static int weight(String name, int at) {
    switch (name) {
      case "person": case "zone": case "door": case "rule": case "pass": return at < 60 ? 30 : 2;
      case "unit": case "room": case "group": case "result": return 4;
      case "go": return 20;
      case "strip": case "act": case "planned": case "opens": case "why": case "may": return 8;
      case "sheet": case "cell": case "row": case "forge": return 6;
      case "lose": case "end": case "image": case "back": case "status": return 1;
      case "clock": return 2;
      default: return 4;
    }
  }

  /** The k-th call of a world with its UNITS, ROOMS, GROUPS and RESULTS; null: it stands. */
  private static String plans(Run run, int at) {
    int bits = run.to(2) == 0 ? run.to(255) : 1 << run.to(7);
    int behind = at % 8 > 0 && run.to(3) == 0 ? run.to(at % 8 - 1) + 10 * run.to(90) : -1;
    int first = run.to(12);
    switch (at / 8) {
      case 0: return "person " + run.to(7);
      case 1: return at % 8 < 6 ? "unit " + run.to(3) + " " + (20 + run.to(220)) + " " + bits + " " + behind + " " + (run.to(3) == 0)
          : "room " + (1 + run.to(8));
      case 2: return at % 8 < 2 ? "room " + (1 + run.to(4))
          : "group " + run.to(2) + " " + (1 + run.to(4)) + " " + (101 * first + run.to(7));
      case 3: return "result " + run.row();
      default: return null;
    }
  }

  /** The k-th call of a small world in which PERSONS can move; null: it stands. */
  private static String gates(Run run, int at) {
    switch (at / 8) {
      case 0: return "person " + run.to(3);
      case 1: return at % 8 < 3 ? "zone " + (2 + run.to(4)) : "room " + (1 + run.to(8));
      case 2: return at % 8 < 3 ? "door -1 " + at % 8 : at % 8 < 6 ? "door " + at % 8 % 3 + " -1" : "door " + (at % 8 - 6) + " 2";
      case 3: return "rule true " + (at % 8 < 3 ? 0 : run.to(5)) + " " + at % 8 % 3 + " 19 1439";
      case 4: case 5: return "pass " + at % 8 + " " + run.to(5) + " " + run.to(3) * 6 + " " + run.to(7);
      default: return null;
    }
  }

  private static Method pick(List<Method> methods, Run run, int at) {
    int all = 0;
    for (Method method : methods) all += weight(method.getName(), at);
    int left = run.to(all - 1);
    for (Method method : methods) {
      left -= weight(method.getName(), at);
      if (left < 0) return method;
    }
    return methods.get(0);
  }

  public static void main(String[] args) throws ReflectiveOperationException {
    List<Method> methods = methods();
    int[] seen = new int[30];
    for (int seed = 0; seed < RUNS; seed++) {
      Run run = new Run(seed);
      for (int at = 0; at < CALLS; at++) {
        if (run.next(methods, at)) {
          if (run.status >= 0 && run.status < seen.length) seen[run.status]++;
          continue;
        }
        System.out.println("ModelTest: run " + seed + " goes apart from the model (the model's in brackets):");
        for (String call : run.calls) System.out.println("  " + call);
        System.exit(1);
      }
    }
    // runs that never come to some status would look at too little
    int[] statuses = {0, 1, 2, 3, 10, 11, 12, 13, 14, 15, 21, 22, 23, 24, 25, 26, 27, 28};
    for (int status : statuses) {
      if (seen[status] >= 10) continue;
      System.out.println("ModelTest: status " + status + " was seen " + seen[status] + " times only");
      System.exit(1);
    }
    System.out.println("ModelTest: " + RUNS + " runs of " + CALLS + " calls are as the model has them");
  }
}
