import java.util.function.IntSupplier;

/** Counts the calls of one test whose answers are not the ones that are due, and prints each of them. */
final class Due {
  private final String test;
  private int calls = 0;
  private int wrong = 0;

  Due(String test) {
    this.test = test;
  }

  void is(String call, long got, long want) {
    calls++;
    if (got == want) return;
    wrong++;
    System.out.println(test + ": " + call + " answered " + got + ", due is " + want);
  }

  /** A call that is no question and is done. */
  void done(String call, GamesOffice x, int got, int want) {
    is(call, got, want);
    is("status() behind " + call, x.status(), 0);
  }

  /** A call that is no question and is refused. */
  void refused(String call, GamesOffice x, int got, int status) {
    is(call, got, -1);
    is("status() behind " + call, x.status(), status);
  }

  /** A question: it leaves STATUS as it was. */
  void asked(String call, GamesOffice x, IntSupplier question, int want) {
    int before = x.status();
    is(call, question.getAsInt(), want);
    is("status() behind " + call, x.status(), before);
  }

  void end() {
    System.out.println(test + ": " + calls + " answers looked at, " + wrong + " not as due");
    if (wrong != 0) System.exit(1);
  }
}
