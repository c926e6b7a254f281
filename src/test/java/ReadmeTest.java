import java.io.IOException;
import java.nio.file.Files;
import java.nio.file.Path;
import java.util.ArrayList;
import java.util.List;

/** The example of README.md: its lines are those of this test, and answer what stands beside them. */
public final class ReadmeTest {
  private static final Due due = new Due("ReadmeTest");
  private static final Path README = Path.of("README.md");
  private static final Path ITSELF = Path.of("src/test/java/ReadmeTest.java");

  public static void main(String[] args) throws IOException {
    example();
    isOfReadme();
    due.end();
  }

  private static void example() {
    GamesOffice office = new GamesOffice();
    int person = office.person(0);
    int zone = office.zone(2);
    int door = office.door(GamesOffice.NONE, zone);
    int pass = office.pass(person, 0, 19, 0);
    int early = office.go(person, door, pass);
    due.refused("the first go()", office, early, 23);
    int rule = office.rule(true, 0, zone, 19, 1439);
    due.done("rule()", office, rule, 0);
    int where = office.go(person, door, pass);
    due.done("the second go()", office, where, zone);

    int bits = 1 << person;
    int heat = office.unit(0, 60, bits, -1, false);
    int last = office.unit(1, 30, bits, heat + 10 * 45, true);
    int begins = office.begins(last);
    due.is("begins()", begins, 465);
    int buses = office.fleet();
    due.is("fleet()", buses, 1);

    int room = office.room(2);
    int group = office.group(0, 2, 100 * 3 + 5);
    int sleeps = office.rooming(group);
    due.is("rooming()", sleeps, room);

    int result = office.result(person + 1);
    due.done("result()", office, result, 0);
    int gold = office.medals(0, 0);
    due.is("medals()", gold, 1);
    int moment = office.clock(90);
    due.done("clock()", office, moment, 90);
  }

  private static void isOfReadme() throws IOException {
    List<String> told = exampleOf(Files.readAllLines(README));
    List<String> here = new ArrayList<>();
    for (String line : Files.readAllLines(ITSELF)) {
      if (line.startsWith("    int ") || line.startsWith("    GamesOffice ")) here.add(line.trim());
    }
    due.is("how many lines the example has", told.size(), here.size());
    for (int i = 0; i < told.size(); i++) {
      due.is("README.md, line " + told.get(i), i < here.size() && here.get(i).equals(told.get(i)) ? 1 : 0, 1);
    }
  }

  /** The lines of the first block of Java, without comments and empty lines. */
  private static List<String> exampleOf(List<String> lines) {
    List<String> example = new ArrayList<>();
    boolean isInside = false;
    for (String line : lines) {
      if (line.startsWith("```") && isInside) break;
      String words = line.replaceAll("//.*", "").trim();
      if (isInside && !words.isEmpty()) example.add(words);
      if (line.equals("```java")) isInside = true;
    }
    return example;
  }
}
