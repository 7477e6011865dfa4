import java.util.ArrayList;
import java.util.List;

/**
 * A run of calls on one new object, told line by line:
 *   "street(0, 1, 5) = 0"     the call, and the answer that is due;
 *   "street(0, 0, 5) ! -1"    the same, and the call must change nothing: it is refused, or only asks;
 *   "tick(300) * 3"           so many times, whatever it answers;
 *   "text w=1?p1"             the tape has these bytes alone.
 * No object is asked more often than the 512 times that the document promises.
 */
final class Run {
  static final int MOST_CALLS = 512;

  private final Due due;
  private final CityBrigade city = new CityBrigade();
  private final List<Step> done = new ArrayList<>();
  private final String name;
  private int asked = 0;
  // How the city looks behind what was done; null if something was done since then.
  private String looks = null;

  private Run(Due due, String name) {
    this.due = due;
    this.name = name;
  }

  static void of(Due due, String name, String... lines) {
    Run run = new Run(due, name);
    due.part(name);
    for (String line : lines) run.line(line);
  }

  private void line(String line) {
    if (line.startsWith("text ")) {
      text(line.substring(5));
      return;
    }
    int close = line.lastIndexOf(')') + 1;
    Step step = new Step(line.substring(0, close));
    String rest = line.substring(close).trim();
    String want = rest.substring(1).trim();
    switch (rest.charAt(0)) {
      case '=': check(step, want, perform(step)); break;
      case '!': harmless(step, want); break;
      case '*': for (int i = Integer.parseInt(want); i > 0; i--) perform(step); break;
      default: throw new IllegalArgumentException("what is due? " + line);
    }
  }

  private void text(String text) {
    perform(new Step("end(0)"));
    for (int from = 0; from < text.length(); from += 20) {
      int[] v = new int[5];
      for (int i = 0; i < 20 && from + i < text.length(); i++) v[i / 4] |= text.charAt(from + i) << (24 - 8 * (i % 4));
      perform(new Step("feed(" + v[0] + ", " + v[1] + ", " + v[2] + ", " + v[3] + ", " + v[4] + ")"));
    }
  }

  private String perform(Step step) {
    looks = null;
    done.add(step);
    return ask(step);
  }

  private String ask(Step step) {
    if (++asked > MOST_CALLS) throw new IllegalStateException(name + ": more than 512 calls");
    return step.on(city);
  }

  private void check(Step step, String want, String got) {
    boolean same = got.equals(want) || got.contains(".") && !want.startsWith("throws") && Double.parseDouble(got) == Double.parseDouble(want);
    due.is("call " + asked + ", " + step.told + " answered " + got + ", not " + want, same, true);
  }

  private void harmless(Step step, String want) {
    check(step, want, ask(step));
    if (looks == null) looks = View.of(done, null);
    String then = View.of(done, step);
    if (!then.equals(looks)) due.is("call " + asked + ", " + step.told + " changes something: " + View.difference(looks, then), true, false);
    else due.is(step.told + " changes nothing", true, true);
  }
}
