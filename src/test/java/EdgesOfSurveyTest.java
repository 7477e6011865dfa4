import java.util.ArrayList;
import java.util.Arrays;
import java.util.List;

/** The edges of promises 42 to 45: rounds of looks, plans of stations (terms, ==== 7). */
public final class EdgesOfSurveyTest {
  static final Due due = new Due();

  public static void main(String[] args) {
    round();
    roundMinutes();
    roundWorth();
    roundFewest();
    roundLower();
    roundEight();
    roundFull();
    plan();
    planned();
    planLimit();
    planPoints();
    planLower();
    planCalls();
    due.over();
  }

  static void run(String part, List<String> first, String... then) {
    List<String> all = new ArrayList<>(first);
    all.addAll(Arrays.asList(then));
    Run.of(due, part, all.toArray(new String[0]));
  }

  static void round() {
    Run.of(due, "promises 42, 43", "street(0, 19, 7) = 0", "house(19, 0, 1, 1, -1) = 0", "round(-1, 100, 0) ! -1", "round(20, 100, 0) ! -1", "round(MIN, 100, 0) ! -1", "round(MAX, 100, 0) ! -1", "round(0, -1, 0) ! -1", "round(0, 501, 0) ! -1", "round(0, MIN, 0) ! -1", "round(0, MAX, 0) ! -1", "round(0, 100, -1) ! -1", "round(0, 100, 3) ! -1",
        "round(0, 100, MIN) ! -1", "round(0, 100, MAX) ! -1", "rounded(-1, 100, 0) ! -1", "rounded(20, 100, 0) ! -1", "rounded(MIN, 100, 0) ! -1", "rounded(MAX, 100, 0) ! -1", "rounded(0, -1, 0) ! -1", "rounded(0, 501, 0) ! -1", "rounded(0, MIN, 0) ! -1", "rounded(0, MAX, 0) ! -1", "rounded(0, 100, -1) ! -1", "rounded(0, 100, 1) ! -1",
        "rounded(0, 100, MIN) ! -1", "rounded(0, 100, MAX) ! -1", "round(0, 500, 0) ! 30", "round(0, 500, 1) ! 24", "round(0, 500, 2) ! 1", "rounded(0, 500, 0) ! 0", "round(19, 500, 1) ! 10", "round(0, 0, 0) ! 0", "round(0, 0, 1) ! 0", "round(0, 0, 2) ! 0", "rounded(0, 0, 0) ! -1", "round(5, 500, 0) ! 0", "rounded(5, 500, 0) ! -1");
  }

  static void roundMinutes() {
    Run.of(due, "promise 42, minutes", "street(0, 1, 7) = 0", "house(1, 0, 1, 1, -1) = 0", "round(0, 24, 2) ! 1", "round(0, 23, 2) ! 0", "round(0, 23, 0) ! 0", "round(0, 23, 1) ! 0", "rounded(0, 23, 0) ! -1", "round(1, 10, 2) ! 1", "round(1, 9, 2) ! 0", "closed(0, true) = true", "round(0, 24, 2) ! 1", "jam(0, 0, 400) = true", "round(0, 24, 1) ! 24",
        // A second one there: 34 minutes for both, one walk there and back.
        "house(1, 0, 1, 1, -1) = 1", "round(0, 33, 2) ! 1", "rounded(0, 33, 0) ! 0", "round(0, 34, 2) ! 2", "round(0, 34, 1) ! 34", "rounded(0, 34, 1) ! 1");
    // 500 minutes: eight of them, a way of 210 there and back; and one minute more is too much.
    List<String> line = new ArrayList<>();
    for (int i = 0; i < 10; i++) line.add("street(" + i + ", " + (i + 1) + ", 20) = " + i);
    line.add("street(10, 11, 10) = 10");
    line.add("street(10, 12, 11) = 11");
    run("promise 42, 500", line, "house(11, 0, 1, 1, -1) * 8", "round(0, 500, 0) ! 240", "round(0, 500, 1) ! 500", "round(0, 499, 0) ! 210", "round(0, 499, 1) ! 490", "rounded(0, 500, 7) ! 7", "rounded(0, 499, 6) ! 6", "rounded(0, 499, 7) ! -1");
    run("promise 42, 502", line, "house(12, 0, 1, 1, -1) * 8", "round(0, 500, 0) ! 210", "round(0, 500, 1) ! 492");
  }

  static void roundWorth() {
    // 30 without a look (letter l is 999), 0 behind one, 10 for each code.
    Run.of(due, "promise 42, WORTH", "house(0, 0, 1, 1, -1) = 0", "house(0, 0, 2, 1, -1) = 1", "house(0, 0, 3, 1, -1) = 2", "round(0, 10, 0) ! 30", "rounded(0, 10, 0) ! 0", "text s>1?1;s>2?2", "act(1) = 0", "round(0, 10, 0) ! 50", "rounded(0, 10, 0) ! 2", "round(0, 20, 0) ! 90", "rounded(0, 20, 0) ! 1", "rounded(0, 20, 1) ! 2", "round(0, 30, 0) ! 120",
        "look(2) = true", "round(0, 10, 0) ! 40", "rounded(0, 10, 0) ! 1", "look(1) = true", "look(0) = true", "round(0, 30, 0) ! 30", "round(0, 30, 2) ! 2", "rounded(0, 30, 0) ! 1", "round(0, 10, 0) ! 20", "text 1=2?1", "act(1) = 1", "round(0, 500, 0) ! 0", "round(0, 500, 2) ! 0", "round(0, 500, 1) ! 0",
        "tick(300) * 4", "tick(239) = 1439", "round(0, 500, 0) ! 0", "tick(1) = 1440", "round(0, 500, 0) ! 3", "round(0, 500, 1) ! 30");
  }

  // The greatest WORTH first, then the fewest minutes: of two alike the nearer one; one with less worth is nearer still.
  static void roundFewest() {
    Run.of(due, "promise 42, the fewest minutes", "street(0, 1, 9) = 0", "street(0, 2, 4) = 1", "street(0, 3, 1) = 2", "house(1, 0, 1, 1, -1) = 0", "house(2, 0, 1, 1, -1) = 1", "house(3, 0, 1, 1, -1) = 2", "look(2) = true", "rounded(0, 30, 0) ! 1", "round(0, 30, 1) ! 18", "round(0, 46, 2) ! 2", "round(0, 45, 2) ! 1", "round(0, 46, 1) ! 46", "round(0, 500, 1) ! 46",
        "rounded(0, 46, 0) ! 0", "rounded(0, 46, 1) ! 1");
    // Over another corner it is nearer than by the street itself.
    Run.of(due, "promise 42, WALKS", "street(0, 1, 20) = 0", "street(0, 2, 3) = 1", "street(2, 1, 4) = 2", "house(1, 0, 1, 1, -1) = 0", "round(0, 24, 1) ! 24", "round(0, 23, 2) ! 0", "closed(1, true) = true", "round(0, 24, 1) ! 24");
  }

  // A ring of four corners: house 0 is opposite, 1 and 2 are next to the first corner.
  static void roundLower() {
    List<String> ring = List.of("street(0, 1, 3) = 0", "street(1, 2, 3) = 1", "street(2, 3, 3) = 2", "street(3, 0, 3) = 3", "house(2, 0, 1, 1, -1) = 0", "house(3, 0, 1, 1, -1) = 1", "house(1, 0, 1, 1, -1) = 2");
    run("promise 43, the lower HOUSE", ring, "round(0, 42, 1) ! 42", "rounded(0, 42, 0) ! 1", "rounded(0, 42, 1) ! 0", "rounded(0, 42, 2) ! 2", "rounded(0, 42, 3) ! -1", "round(0, 41, 1) ! 32", "rounded(0, 41, 0) ! 0", "rounded(0, 41, 1) ! 1", "rounded(0, 31, 0) ! 1", "round(0, 31, 1) ! 16", "round(0, 16, 2) ! 1", "round(0, 15, 2) ! 0");
    // All at one corner: by their numbers; nine minutes more are no look more.
    Run.of(due, "promise 43, one corner", "house(4, 0, 1, 1, -1) * 5", "round(4, 29, 2) ! 2", "rounded(4, 29, 0) ! 0", "rounded(4, 29, 1) ! 1", "round(4, 30, 2) ! 3", "rounded(4, 50, 4) ! 4", "look(0) = true", "rounded(4, 29, 0) ! 1", "rounded(4, 29, 1) ! 2");
  }

  static void roundEight() {
    // House 0 can't be come to; of the eleven others the eight lowest.
    Run.of(due, "promise 42, the eight lowest", "street(0, 1, 1) = 0", "house(5, 0, 1, 1, -1) = 0", "house(1, 0, 1, 1, -1) * 7", "house(0, 0, 1, 1, -1) * 4", "round(0, 500, 2) ! 8", "round(0, 500, 1) ! 82", "rounded(0, 500, 0) ! 1", "rounded(0, 500, 7) ! 8", "rounded(0, 500, 8) ! -1", "round(0, 82, 2) ! 8", "round(0, 81, 2) ! 7",
        "rounded(0, 10, 0) ! 8", "rounded(0, 11, 1) ! -1", "round(5, 10, 2) ! 1", "rounded(5, 500, 0) ! 0",
        // Those of no worth are among the eight all the same.
        "look(1) = true", "round(0, 500, 2) ! 7", "rounded(0, 500, 6) ! 8");
  }

  // Eight houses on a line, told in a mixed order: out and back once.
  static void roundFull() {
    List<String> line = new ArrayList<>();
    for (int i = 0; i < 8; i++) line.add("street(" + i + ", " + (i + 1) + ", 5) = " + i);
    int[] corners = {4, 8, 2, 6, 1, 7, 3, 5};
    for (int i = 0; i < 8; i++) line.add("house(" + corners[i] + ", 0, 1, 1, -1) = " + i);
    // 0 (corner 4) and 1 (corner 8) on the way out; all others on the way back, as they stand there.
    run("promise 43, eight", line, "round(0, 160, 1) ! 160", "round(0, 160, 2) ! 8", "rounded(0, 160, 0) ! 0", "rounded(0, 160, 1) ! 1", "rounded(0, 160, 2) ! 5", "rounded(0, 160, 3) ! 3", "rounded(0, 160, 4) ! 7", "rounded(0, 160, 5) ! 6", "rounded(0, 160, 6) ! 2", "rounded(0, 160, 7) ! 4", "rounded(0, 160, 8) ! -1", "round(0, 159, 2) ! 7", "round(0, 159, 1) ! 140");
  }

  static void plan() {
    Run.of(due, "promise 44", "call(3) = 0", "plan(0, 10) ! -1", "plan(5, 10) ! -1", "plan(-1, 10) ! -1", "plan(MIN, 10) ! -1", "plan(MAX, 10) ! -1", "plan(1, 0) ! -1", "plan(1, 101) ! -1", "plan(1, MIN) ! -1", "plan(1, MAX) ! -1", "plan(4, 0) ! -1", "plan(1, 1) ! 2", "plan(4, 100) ! 2", "plan(1, 100) ! 2", "plan(4, 1) ! 2");
    Run.of(due, "promise 44, no CALL", "plan(1, 1) ! 0", "plan(4, 100) ! 0", "planned(1, 1, 0) ! 0", "planned(4, 100, 0) ! 0", "planned(4, 100, 1) ! 1", "planned(4, 100, 2) ! 2", "planned(4, 100, 3) ! 3", "planned(4, 100, 4) ! -1");
  }

  static void planned() {
    Run.of(due, "promise 45", "call(19) = 0", "planned(0, 10, 0) ! -1", "planned(5, 10, 0) ! -1", "planned(MIN, 10, 0) ! -1", "planned(MAX, 10, 0) ! -1", "planned(1, 0, 0) ! -1", "planned(1, 101, 0) ! -1", "planned(1, MIN, 0) ! -1", "planned(1, MAX, 0) ! -1", "planned(1, 10, -1) ! -1", "planned(1, 10, 1) ! -1", "planned(1, 10, MIN) ! -1", "planned(1, 10, MAX) ! -1",
        "planned(1, 10, 0) ! 19", "planned(4, 10, 3) ! 19", "planned(4, 10, 0) ! 0", "planned(4, 10, 2) ! 2", "planned(4, 10, 4) ! -1", "planned(2, 10, 1) ! 19", "planned(2, 10, 2) ! -1");
  }

  static void planLimit() {
    // 100 minutes and 101: five streets of 20, and one of 1.
    Run.of(due, "promise 44, limits", "street(0, 1, 20) = 0", "street(1, 2, 20) = 1", "street(2, 3, 20) = 2", "street(3, 4, 20) = 3", "street(4, 5, 20) = 4", "street(5, 6, 1) = 5", "call(0) = 0", "call(5) = 1", "plan(1, 99) ! 4", "planned(1, 99, 0) ! 1", "plan(1, 100) ! 4", "planned(1, 100, 0) ! 0", "plan(1, 59) ! 2", "plan(1, 60) ! 4", "planned(1, 60, 0) ! 2", "plan(1, 79) ! 4",
        "planned(1, 79, 0) ! 2", "planned(1, 80, 0) ! 1", "closed(0, true) = true", "planned(1, 100, 0) ! 0", "jam(1, 0, 400) = true", "planned(1, 100, 0) ! 0");
    Run.of(due, "promise 44, limit 101", "street(0, 1, 20) = 0", "street(1, 2, 20) = 1", "street(2, 3, 20) = 2", "street(3, 4, 20) = 3", "street(4, 5, 20) = 4", "street(5, 6, 1) = 5", "call(6) = 0", "planned(1, 100, 0) ! 1", "plan(1, 1) ! 2", "planned(1, 1, 0) ! 5");
  }

  static void planPoints() {
    // 2 for the nearest one, 1 more for the second nearest, no more for the third.
    Run.of(due, "promise 44, points", "street(0, 1, 1) = 0", "street(1, 2, 1) = 1", "call(1) = 0", "plan(1, 1) ! 2", "plan(2, 1) ! 3", "plan(3, 1) ! 3", "plan(4, 1) ! 3", "planned(2, 1, 0) ! 0", "planned(2, 1, 1) ! 1", "planned(3, 1, 2) ! 2", "planned(4, 1, 3) ! 3", "call(2) = 1", "plan(1, 1) ! 4", "planned(1, 1, 0) ! 1", "plan(2, 1) ! 6", "planned(2, 1, 0) ! 1", "planned(2, 1, 1) ! 2",
        "plan(2, 2) ! 6", "planned(2, 2, 0) ! 0", "planned(2, 2, 1) ! 1");
  }

  static void planLower() {
    Run.of(due, "promise 45, the lower CORNER", "call(17) = 0", "call(19) = 1", "call(18) = 2", "planned(1, 100, 0) ! 17", "planned(2, 100, 0) ! 17", "planned(2, 100, 1) ! 18", "planned(3, 100, 2) ! 19", "planned(4, 100, 0) ! 0", "planned(4, 100, 1) ! 17", "plan(4, 100) ! 6");
  }

  // As often as CALLS were: WORDS are not asked, CLOSED ones and FALSE ones are CALLS, too.
  static void planCalls() {
    Run.of(due, "promise 44, CALLS", "crew(3, 4, false, 100, 1) = 0", "text 1=1?c1", "orders() = 0", "call(4) = 0", "tick(1) = 1", "call(4) = 1", "tick(1) = 2", "count(6) ! 2", "call(2) = 2", "call(2) = 2", "call(2) = 2", "call(2) = 2", "plan(1, 1) ! 4", "planned(1, 1, 0) ! 4", "plan(2, 1) ! 6", "planned(2, 1, 0) ! 2");
  }
}
