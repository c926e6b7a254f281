import java.io.IOException;
import java.lang.reflect.Constructor;
import java.lang.reflect.Executable;
import java.lang.reflect.Field;
import java.lang.reflect.Method;
import java.lang.reflect.Modifier;
import java.nio.file.Files;
import java.nio.file.Path;
import java.util.ArrayList;
import java.util.Arrays;
import java.util.HashSet;
import java.util.List;
import java.util.Set;
import java.util.TreeSet;
import java.util.regex.Matcher;
import java.util.regex.Pattern;

/** What can be seen from outside of the rules of ../shared/LANGUAGE.md, and the face of the document. */
public final class LanguageTest {
  private static final Path SOURCE = Path.of("src/main/java/GamesOffice.java");
  private static final int MOST_CLASSES = 12;
  private static final int MOST_FIELDS = 20;
  private static final int MOST_PARAMETERS = 7;
  private static final int LONGEST_METHOD = 60;

  private static final String[] FACE = {
      "person(int)", "zone(int)", "door(int,int)", "pass(int,int,int,int)", "lose(int,int)", "rule(boolean,int,int,int,int)",
      "end(int)", "clock(int)", "go(int,int,int)", "unit(int,int,int,int,boolean)", "seats(int)", "room(int)",
      "group(int,int,int)", "result(int)", "strip(int,int)", "image()", "back()", "personTold(int,int)", "zoneTold(int,int)",
      "passTold(int,int)", "opens(int,int,int,int)", "why(int,int,int,int)", "may(int,int,int)", "begins(int)", "order(int)",
      "planned(int,int)", "fleet()", "rooming(int)", "placed(int,int)", "medals(int,int)", "count(int)", "act(int,int,int)",
      "trace(int)", "sheet(int,int,int)", "cell(int,int,int)", "row(int,int,int)", "forge(int,int,int)", "status()"};

  private static final String[] FORBIDDEN_WORDS = {"throw", "throws", "try", "catch", "finally", "synchronized", "assert",
      "import", "package", "volatile", "transient", "native", "strictfp", "double", "float", "var", "yield", "record", "Object",
      "Class", "Thread", "Random", "equals", "hashCode", "toString", "getClass", "protected"};
  private static final String[] FORBIDDEN_SIGNS = {"->", "::", "@"};
  private static final Set<String> LIBRARY = Set.of("Math.max", "Math.min", "Math.floorMod", "Integer.bitCount", "System.arraycopy");

  private static int wrong = 0;

  private static void need(boolean holds, String rule) {
    if (holds) return;
    wrong++;
    System.out.println("LanguageTest: " + rule);
  }

  private static String words(Method method) {
    StringBuilder words = new StringBuilder(method.getName()).append('(');
    for (Class<?> type : method.getParameterTypes()) {
      if (words.charAt(words.length() - 1) != '(') words.append(',');
      words.append(type.getName());
    }
    return words.append(')').toString();
  }

  private static void lookAtFace() {
    Set<String> open = new TreeSet<>();
    Set<String> openNames = new HashSet<>();
    for (Method method : GamesOffice.class.getDeclaredMethods()) {
      if (Modifier.isPrivate(method.getModifiers())) continue;
      need(Modifier.isPublic(method.getModifiers()) && !Modifier.isStatic(method.getModifiers()), "1: " + method);
      need(method.getReturnType() == int.class, "1: the type of " + method);
      open.add(words(method));
      openNames.add(method.getName());
    }
    need(open.equals(new TreeSet<>(Arrays.asList(FACE))), "1: the face is " + open);
    for (Field field : GamesOffice.class.getDeclaredFields()) {
      need(Modifier.isPrivate(field.getModifiers()) || field.getName().equals("NONE"), "1: the field " + field);
    }
    Constructor<?>[] constructors = GamesOffice.class.getDeclaredConstructors();
    need(constructors.length == 1 && Modifier.isPublic(constructors[0].getModifiers()), "1: the constructor");
    need(Modifier.isFinal(GamesOffice.class.getModifiers()), "1: the class is final");
    for (Class<?> c : classes()) {
      for (Method method : c.getDeclaredMethods()) {
        boolean isPrivate = Modifier.isPrivate(method.getModifiers());
        need(!isPrivate || !openNames.contains(method.getName()), "1: a private method has the name of a public one: " + method);
      }
    }
  }

  private static List<Class<?>> classes() {
    List<Class<?>> classes = new ArrayList<>();
    classes.add(GamesOffice.class);
    for (int i = 0; i < classes.size(); i++) classes.addAll(Arrays.asList(classes.get(i).getDeclaredClasses()));
    return classes;
  }

  private static void lookAtClasses() {
    List<Class<?>> classes = classes();
    need(classes.size() <= MOST_CLASSES, "11: " + classes.size() + " classes");
    for (Class<?> c : classes) {
      boolean isOuter = c == GamesOffice.class;
      need(isOuter || Modifier.isStatic(c.getModifiers()) && !Modifier.isPublic(c.getModifiers()), "1, 2: " + c);
      int fields = 0;
      for (Field field : c.getDeclaredFields()) {
        boolean isStatic = Modifier.isStatic(field.getModifiers());
        if (!isStatic) fields++;
        need(!isStatic || Modifier.isFinal(field.getModifiers()), "5: " + field);
        boolean isAllowed = field.getType() == int.class || field.getType() == int[].class;
        need(!isStatic || isAllowed, "5: " + field);
      }
      need(fields <= MOST_FIELDS, "11: " + c + " has " + fields + " fields");
      List<Executable> all = new ArrayList<>(Arrays.asList(c.getDeclaredMethods()));
      all.addAll(Arrays.asList(c.getDeclaredConstructors()));
      for (Executable e : all) need(e.getParameterCount() <= MOST_PARAMETERS, "11: " + e);
    }
  }

  private static String withoutComments(String source) {
    return Pattern.compile("/\\*.*?\\*/", Pattern.DOTALL).matcher(source).replaceAll("").replaceAll("//[^\n]*", "");
  }

  private static void lookAtWords(String code) {
    need(!code.contains("\"") && !code.contains("'"), "4: there are texts, which this test does not look at");
    for (String word : FORBIDDEN_WORDS) {
      need(!Pattern.compile("\\b" + word + "\\b").matcher(code).find(), "the word " + word);
    }
    for (String sign : FORBIDDEN_SIGNS) need(!code.contains(sign), "the sign " + sign);
    Matcher library = Pattern.compile("\\b(Math|Integer|Long|System|Arrays|String|List|Character|Boolean)\\.(\\w+)").matcher(code);
    while (library.find()) need(LIBRARY.contains(library.group()), "4: " + library.group());
    Matcher made = Pattern.compile("\\bnew (\\w+)").matcher(code);
    Set<String> own = new HashSet<>(Set.of("int"));
    for (Class<?> c : classes()) own.add(c.getSimpleName());
    while (made.find()) need(own.contains(made.group(1)), "4: new " + made.group(1));
  }

  /** A method is from a line that opens a body at the depth of a class's members to the line that shuts it. */
  private static void lookAtLengths(String source) {
    String[] lines = source.split("\n");
    for (int i = 0; i < lines.length; i++) {
      Matcher head = Pattern.compile("^( {4}| {8})(?! )[\\w\\[\\] ]+\\(.*\\) \\{$").matcher(lines[i]);
      if (!head.matches()) continue;
      int last = i;
      while (last < lines.length && !lines[last].equals(head.group(1) + "}")) last++;
      need(last - i < LONGEST_METHOD, "11: too long: " + lines[i]);
    }
  }

  public static void main(String[] args) throws IOException {
    String source = Files.readString(SOURCE);
    lookAtFace();
    lookAtClasses();
    lookAtWords(withoutComments(source));
    lookAtLengths(source);
    for (int i = 0; i < source.length(); i++) need(source.charAt(i) < 128, "a sign that is no ASCII at " + i);
    System.out.println("LanguageTest: " + wrong + " rules broken");
    if (wrong != 0) System.exit(1);
  }
}
