import java.util.ArrayList;
import java.util.Arrays;
import java.util.List;

/** The edges of promises 23 to 25, 31 and 32: calls and their answering, falses, asks, why (terms, ==== 4). */
public final class EdgesOfCallsTest {
  static final Due due = new Due();

  public static void main(String[] args) {
    call();
    words();
    sixtyCalls();
    sixtyOpenOnes();
    nineOfEach();
    thatCanCome();
    leastCome();
    shortOnes();
    moves();
    lonelyOnes();
    noMoves();
    called();
    falses();
    falsesByParts();
    asks();
    why();
    lettersAtTheirEdges();
    othersOpen();
    due.over();
  }

  static void run(String part, List<String> first, String... then) {
    List<String> all = new ArrayList<>(first);
    all.addAll(Arrays.asList(then));
    Run.of(due, part, all.toArray(new String[0]));
  }

  static void call() {
    Run.of(due, "promise 23", "crew(0, 0, false, 100, 1) = 0", "text 1=1?p1", "orders() = 0", "call(-1) ! -1", "call(20) ! -1", "call(MIN) ! -1", "call(MAX) ! -1", "count(4) ! 0",
        "call(19) = 0", "called(0, 6) ! 1", "call(0) = 1", "about(0, 0) ! 1", "call(19) = 0", "call(0) = 1", "count(4) ! 2", "count(5) ! 2", "call(20) ! -1", "call(-1) ! -1");
    // Without ORDERS nobody is asked for.
    Run.of(due, "promise 23, no ORDERS", "crew(0, 0, false, 100, 1) = 0", "call(0) = 0", "called(0, 1) ! 1", "called(0, 5) ! 0", "called(0, 6) ! 0", "about(0, 0) ! 0");
    // A CLOSED one is not called again: a new one begins with its first WORD.
    Run.of(due, "promise 23, a new one", "crew(3, 0, false, 100, 1) = 0", "text 1=1?c1", "orders() = 0", "call(0) = 0", "call(0) = 0", "tick(1) = 1", "called(0, 2) ! 2", "called(0, 1) ! 2", "call(0) = 1", "called(1, 1) ! 1", "called(1, 3) ! 1", "called(0, 7) ! 2", "called(1, 7) ! 1");
  }

  static void words() {
    Run.of(due, "promise 23, WORDS", "crew(0, 0, false, 100, 1) * 9", "text w=1?p1;w=2?p2;w=3?p3;w>3?p9;w<1?p9", "orders() = 0", "call(0) = 0", "called(0, 1) ! 1", "called(0, 5) ! 1", "call(0) = 0", "called(0, 1) ! 2", "called(0, 5) ! 3",
        "call(0) = 0", "called(0, 1) ! 3", "called(0, 5) ! 6", "called(0, 7) ! 3", "call(0) = 0", "called(0, 1) ! 3", "called(0, 5) ! 6", "called(0, 6) ! 0", "called(0, 7) ! 4", "call(0) = 0", "called(0, 7) ! 5", "called(0, 1) ! 3", "about(6, 0) ! 0", "count(4) ! 1");
  }

  static void sixtyCalls() {
    List<String> lines = new ArrayList<>(List.of("crew(3, 0, false, 100, 1) = 0", "text 1=1?c1", "orders() = 0"));
    for (int i = 0; i < 58; i++) {
      lines.add("call(0) = " + i);
      lines.add("tick(1) = " + (i + 1));
    }
    run("promise 23, sixty", lines, "count(4) ! 58", "call(7) = 58", "call(0) = 59", "count(4) ! 60", "called(59, 0) ! 0", "called(59, 2) ! 0", "called(60, 0) ! -1", "call(1) ! -1", "call(19) ! -1",
        // Of an OPEN one the next WORDS still come.
        "call(7) = 58", "called(58, 1) ! 2", "called(58, 6) ! 2", "call(0) = 59", "tick(1) = 59", "called(59, 2) ! 2", "call(0) ! -1", "call(7) = 58", "called(58, 1) ! 3", "call(7) = 58", "called(58, 7) ! 4", "count(4) ! 60", "count(5) ! 1", "count(6) ! 59",
        "falses(0, 0) ! 100", "plan(1, 1) ! 118", "planned(1, 1, 0) ! 0");
  }

  // Twenty corners have one OPEN call each at most.
  static void sixtyOpenOnes() {
    List<String> lines = new ArrayList<>();
    for (int c = 0; c < 20; c++) lines.add("call(" + c + ") = " + c);
    run("promise 23, all corners", lines, "count(5) ! 20", "call(0) = 0", "call(19) = 19", "count(4) ! 20", "text o=19?p1;o=20?p2", "orders() = 0", "asks(0, 1, 0) ! 1", "asks(19, 3, 0) ! 1");
  }

  static void nineOfEach() {
    Run.of(due, "9 of each at most", "text w=1?p9s8l9c4m9;w=1?p1s1l9c5m1;w=2?p8s9;w=2?s0p0", "orders() = 0", "asks(0, 1, 0) ! 9", "asks(0, 1, 1) ! 9", "asks(0, 1, 2) ! 9", "asks(0, 1, 3) ! 9", "asks(0, 1, 4) ! 9", "asks(0, 2, 0) ! 8", "asks(0, 2, 1) ! 9", "asks(0, 2, 2) ! 0",
        "call(0) = 0", "called(0, 6) ! 36", "call(0) = 0", "called(0, 6) ! 53", "call(0) = 0", "called(0, 6) ! 53", "count(7) ! 53");
    Run.of(due, "9 of each at most, all READY", "crew(0, 0, false, 100, 1) * 12", "text 1=1?p9;1=1?p9", "orders() = 0", "call(0) = 0", "called(0, 5) ! 9", "called(0, 6) ! 0", "about(8, 0) ! 1", "about(9, 0) ! 0", "call(0) = 0", "called(0, 5) ! 12", "called(0, 6) ! 6");
    // Within one clause, too.
    Run.of(due, "9 of each at most, one clause", "text 1=1?p5p4s5s5l9l0", "orders() = 0", "asks(0, 1, 0) ! 9", "asks(0, 1, 1) ! 9", "asks(0, 1, 2) ! 9");
  }

  // Corner 8 is 600 minutes away, corner 9 601.
  static void thatCanCome() {
    List<String> lines = new ArrayList<>();
    for (int i = 0; i < 7; i++) lines.add("street(" + i + ", " + (i + 1) + ", 20) = " + i);
    lines.add("street(7, 8, 10) = 7");
    lines.add("street(7, 9, 20) = 8");
    for (int i = 0; i < 9; i++) for (int part = 0; part < 4; part++) lines.add("jam(" + i + ", " + part + ", " + (i == 8 ? 205 : 400) + ") = true");
    run("that can come", lines, "crew(0, 8, false, 100, 1) = 0", "crew(0, 9, false, 100, 1) = 1", "text 1=1?p2", "orders() = 0", "call(0) = 0", "about(0, 0) ! 1", "about(0, 2) ! 600", "about(1, 0) ! 0", "called(0, 5) ! 1", "called(0, 6) ! 1");
    // Nobody moves to a corner 601 minutes away; to one 600 away one does.
    run("that can come, MOVES", lines, "crew(2, 0, false, 100, 1) = 0", "crew(0, 9, false, 100, 1) = 1", "crew(0, 9, false, 100, 1) = 2", "text 1=1?l1m1", "orders() = 0", "call(0) = 0", "about(0, 0) ! 1", "about(1, 0) ! 0", "about(2, 0) ! 0");
    run("that can come, MOVES of 600", lines, "crew(2, 0, false, 100, 1) = 0", "crew(0, 8, false, 100, 1) = 1", "crew(0, 8, false, 100, 1) = 2", "text 1=1?l1m1", "orders() = 0", "call(0) = 0", "about(1, 0) ! 3", "about(1, 1) ! 0", "about(1, 2) ! 600", "about(2, 0) ! 0");
    // Where the streets are closed nobody comes; at the very corner one does.
    Run.of(due, "that can come, closed", "street(0, 1, 1) = 0", "closed(0, true) = true", "crew(0, 1, false, 100, 1) = 0", "crew(0, 0, false, 100, 1) = 1", "text 1=1?p2", "orders() = 0", "call(0) = 0", "about(0, 0) ! 0", "about(1, 0) ! 1", "about(1, 2) ! 0", "called(0, 6) ! 1");
  }

  static void leastCome() {
    // 8, 8 (7.5 cut up) and 7: the third one first, then the lowest one.
    Run.of(due, "the least COME", "street(0, 1, 8) = 0", "street(2, 1, 5) = 1", "street(3, 1, 7) = 2", "crew(0, 0, false, 100, 1) = 0", "crew(0, 2, false, 150, 1) = 1", "crew(0, 3, false, 100, 1) = 2", "text w=1?p1;w=2?p1;w=3?p1", "orders() = 0",
        "call(1) = 0", "about(2, 0) ! 1", "about(2, 2) ! 7", "about(0, 0) ! 0", "call(1) = 0", "about(0, 0) ! 1", "about(0, 2) ! 8", "about(1, 0) ! 0", "call(1) = 0", "about(1, 2) ! 8", "called(0, 5) ! 3", "called(0, 6) ! 0");
    // From its POST, not from HOME; SLOW as it is.
    Run.of(due, "the least COME, from its POST", "street(0, 1, 4) = 0", "street(1, 2, 1) = 1", "crew(0, 0, false, 100, 1) = 0", "crew(0, 0, false, 100, 1) = 1", "crew(2, 1, false, 100, 1) = 2", "text w=1?l1m1;w=2?p1", "orders() = 0", "call(2) = 0", "tick(4) = 4",
        "about(0, 1) ! 1", "call(2) = 1", "call(2) = 1", "about(0, 0) ! 1", "about(0, 2) ! 5", "about(1, 0) ! 0");
  }

  static void shortOnes() {
    // Sort by sort: each that lacks is one, of each sort.
    Run.of(due, "SHORT", "crew(0, 0, false, 100, 1) = 0", "crew(1, 0, false, 100, 1) = 1", "text w=1?p0s1l0c1;w=2?p1", "orders() = 0", "call(0) = 0", "called(0, 5) ! 1", "called(0, 6) ! 1", "about(0, 0) ! 0", "call(0) = 0", "called(0, 5) ! 2", "called(0, 6) ! 1", "count(7) ! 1",
        "call(5) = 1", "called(1, 6) ! 2", "count(7) ! 3", "call(20) ! -1", "count(7) ! 3");
    // HURT, GOING, at WORK and on its WAY nobody is sent: the only pump is GOING.
    Run.of(due, "SHORT, not READY", "street(0, 1, 5) = 0", "crew(0, 0, false, 100, 1) = 0", "text 1=1?p1", "orders() = 0", "call(1) = 0", "call(0) = 1", "called(1, 6) ! 1", "tick(5) = 5", "about(0, 0) ! 3", "call(0) = 1", "called(1, 6) ! 2", "tick(5) = 10", "call(0) = 1", "called(1, 5) ! 1", "called(1, 6) ! 2");
  }

  static void moves() {
    // Corners 1 and 2 are bare: m1 fills the lower one alone, m2 both; of corner 3 one always stays.
    List<String> town = List.of("street(0, 1, 2) = 0", "street(1, 2, 2) = 1", "street(2, 3, 2) = 2", "crew(0, 1, false, 100, 1) = 0", "crew(0, 2, false, 100, 1) = 1", "crew(1, 3, false, 100, 1) = 2", "crew(2, 3, false, 100, 1) = 3", "crew(3, 3, false, 100, 1) = 4");
    run("MOVES 0", town, "text 1=1?p2m0", "orders() = 0", "call(0) = 0", "about(2, 0) ! 0", "about(3, 0) ! 0", "about(4, 0) ! 0");
    run("MOVES 1", town, "text 1=1?p2m1", "orders() = 0", "call(0) = 0", "about(2, 0) ! 3", "about(2, 1) ! 1", "about(2, 2) ! 4", "about(2, 3) ! -1", "about(3, 0) ! 0", "about(4, 0) ! 0", "called(0, 5) ! 2");
    run("MOVES 2", town, "text 1=1?p2m2", "orders() = 0", "call(0) = 0", "about(2, 1) ! 1", "about(3, 0) ! 3", "about(3, 1) ! 2", "about(3, 2) ! 2", "about(4, 0) ! 0", "called(0, 6) ! 0");
    run("MOVES 9", town, "text 1=1?p2m9", "orders() = 0", "call(0) = 0", "about(3, 1) ! 2", "about(4, 0) ! 0", "called(0, 6) ! 0", "count(7) ! 0",
        // One is on its WAY to each: no such corner.
        "call(0) = 0", "about(4, 0) ! 0");
    // Who moves: READY ones whose POST is that of another READY one, the one with the least COME, of several the lowest.
    run("MOVES, the least COME", List.of("street(0, 1, 6) = 0", "street(2, 1, 3) = 1", "street(1, 5, 1) = 2"), "crew(0, 0, false, 100, 1) = 0", "crew(0, 0, false, 50, 1) = 1", "crew(0, 2, false, 100, 1) = 2", "crew(0, 2, false, 100, 1) = 3", "crew(2, 1, false, 100, 1) = 4",
        "text 1=1?l1m1", "orders() = 0", "call(5) = 0", "about(0, 0) ! 0", "about(1, 0) ! 3", "about(1, 2) ! 3", "about(2, 0) ! 0", "about(3, 0) ! 0");
  }

  // A READY one that is alone at its POST, or there with one that is GOING, does not move, though it is nearer.
  static void lonelyOnes() {
    List<String> town = List.of("street(0, 1, 1) = 0", "street(1, 2, 1) = 1", "street(1, 3, 9) = 2", "crew(2, 1, false, 100, 1) = 0", "crew(0, 2, false, 100, 1) = 1", "crew(0, 3, false, 100, 1) = 2");
    run("MOVES, all alone", town, "text 1=1?l1m9", "orders() = 0", "call(0) = 0", "about(0, 0) ! 1", "about(1, 0) ! 0", "about(2, 0) ! 0");
    run("MOVES, two at one POST", town, "crew(3, 3, false, 100, 1) = 3", "text 1=1?l1m9", "orders() = 0", "call(0) = 0", "about(1, 0) ! 0", "about(2, 0) ! 3", "about(2, 1) ! 1", "about(2, 2) ! 9", "about(3, 0) ! 0");
    run("MOVES, one of two is GOING", town, "crew(3, 2, false, 100, 1) = 3", "text 1=1?l1c1m9", "orders() = 0", "call(0) = 0", "about(3, 0) ! 1", "about(1, 0) ! 0", "about(2, 0) ! 0");
  }

  static void noMoves() {
    // The lowest bare corner has no way: no more, though corner 2 is bare, too, and near.
    Run.of(due, "no such CREW, no more", "street(1, 2, 1) = 0", "street(2, 3, 1) = 1", "crew(2, 0, false, 100, 1) = 0", "crew(2, 2, false, 100, 1) = 1", "crew(0, 1, false, 100, 1) = 2", "crew(0, 1, false, 100, 1) = 3", "text w=1?l1;w=2?l1m9", "orders() = 0", "call(0) = 0", "call(3) = 1", "about(0, 0) ! 1",
        "about(1, 0) ! 1", "call(3) = 1", "about(2, 0) ! 0", "about(3, 0) ! 0");
    // A HOME whose crew is READY elsewhere is bare; one whose crew is READY there is not.
    Run.of(due, "no such CORNER", "crew(0, 1, false, 100, 1) = 0", "crew(0, 1, false, 100, 1) = 1", "text 1=1?m9", "orders() = 0", "call(1) = 0", "about(0, 0) ! 0", "about(1, 0) ! 0");
    Run.of(due, "no crew at all", "text 1=1?m9p9", "orders() = 0", "call(1) = 0", "called(0, 6) ! 9");
  }

  static void called() {
    Run.of(due, "promise 24", "called(0, 0) ! -1", "street(0, 1, 3) = 0", "crew(3, 0, false, 100, 1) = 0", "text 1=1?c2", "orders() = 0", "tick(10) = 10", "call(1) = 0",
        "called(0, 0) ! 1", "called(0, 1) ! 1", "called(0, 2) ! 0", "called(0, 3) ! 10", "called(0, 4) ! -1", "called(0, 5) ! 1", "called(0, 6) ! 1", "called(0, 7) ! 1", "called(0, 8) ! -1", "called(0, -1) ! -1", "called(0, MIN) ! -1", "called(0, MAX) ! -1",
        "called(1, 0) ! -1", "called(-1, 0) ! -1", "called(60, 0) ! -1", "called(MIN, 0) ! -1", "called(MAX, 0) ! -1", "tick(2) = 12", "called(0, 2) ! 0", "tick(1) = 13", "called(0, 2) ! 2", "called(0, 3) ! 10", "called(0, 4) ! 13", "called(0, 5) ! 1");
  }

  // At corner 0 a chief is there at once: each call is FALSE, or OUT if a room burns that a minute burns out.
  static void falses() {
    Run.of(due, "promise 25", "falses(-1, 0) ! -1", "falses(20, 0) ! -1", "falses(MIN, 0) ! -1", "falses(MAX, 0) ! -1", "falses(0, -1) ! -1", "falses(0, 4) ! -1", "falses(0, MIN) ! -1", "falses(0, MAX) ! -1", "falses(0, 0) ! 0", "falses(19, 3) ! 0",
        "crew(3, 0, false, 100, 1) = 0", "house(0, 2, 1, 1, -1) = 0", "text 1=1?c1", "orders() = 0", "call(0) = 0", "falses(0, 0) ! 0", "tick(1) = 1", "falses(0, 0) ! 100", "falses(0, 1) ! 0", "falses(1, 0) ! 0",
        "floor(0, 0, 1, 0) = true", "light(0, 0) = true", "call(0) = 1", "falses(0, 0) ! 100", "tick(1) = 2", "called(1, 2) ! 1", "falses(0, 0) ! 50", "floor(0, 0, 1, 0) = true", "light(0, 0) = true", "call(0) = 2", "tick(1) = 3", "falses(0, 0) ! 33",
        "call(0) = 3", "tick(1) = 4", "falses(0, 0) ! 50", "call(0) = 4", "tick(1) = 5", "falses(0, 0) ! 60", "call(0) = 5", "tick(1) = 6", "falses(0, 0) ! 66");
    Run.of(due, "promise 25, none FALSE", "crew(3, 0, false, 100, 1) = 0", "house(0, 2, 1, 1, -1) = 0", "text 1=1?c1", "orders() = 0", "floor(0, 0, 1, 0) = true", "light(0, 0) = true", "call(0) = 0", "tick(1) = 1", "called(0, 2) ! 1", "falses(0, 0) ! 0");
  }

  static void falsesByParts() {
    Run.of(due, "promise 25, PARTS", "crew(3, 0, false, 100, 1) = 0", "text 1=1?c1;a=100?p1;a=0?s1", "orders() = 0", "asks(0, 1, 0) ! 0", "asks(0, 1, 1) ! 1", "tick(300) = 300", "tick(59) = 359", "call(0) = 0", "tick(1) = 360", "falses(0, 0) ! 100", "falses(0, 1) ! 0",
        // Letter a is of the PART of NOW.
        "asks(0, 1, 0) ! 0", "asks(0, 1, 1) ! 1", "call(0) = 1", "tick(1) = 361", "falses(0, 1) ! 100", "asks(0, 1, 0) ! 1", "asks(1, 1, 0) ! 0", "tick(300) = 661", "tick(300) = 961", "tick(118) = 1079", "asks(0, 1, 0) ! 0", "call(0) = 2", "tick(1) = 1080", "falses(0, 2) ! 100", "falses(0, 3) ! 0",
        "tick(300) = 1380", "tick(59) = 1439", "asks(0, 1, 0) ! 0", "tick(1) = 1440", "asks(0, 1, 0) ! 1", "falses(0, 0) ! 100", "tick(300) = 1740", "tick(59) = 1799", "asks(0, 1, 0) ! 1");
  }

  static void asks() {
    Run.of(due, "promise 31", "crew(0, 0, false, 100, 1) = 0", "text w=1?p1;w=2?s2;w=3?l3;w<4?c4m5", "orders() = 0", "asks(0, 1, 0) ! 1", "asks(19, 1, 0) ! 1", "asks(0, 2, 1) ! 2", "asks(0, 3, 2) ! 3", "asks(0, 1, 3) ! 4", "asks(0, 3, 4) ! 5", "asks(0, 2, 0) ! 0",
        "asks(-1, 1, 0) ! -1", "asks(20, 1, 0) ! -1", "asks(MIN, 1, 0) ! -1", "asks(MAX, 1, 0) ! -1", "asks(0, 0, 0) ! -1", "asks(0, 4, 0) ! -1", "asks(0, MIN, 0) ! -1", "asks(0, MAX, 0) ! -1",
        "asks(0, 1, -1) ! -1", "asks(0, 1, 5) ! -1", "asks(0, 1, MIN) ! -1", "asks(0, 1, MAX) ! -1",
        // The latest is in force; a refused one is not.
        "text 1=1?p7", "asks(0, 1, 0) ! 1", "orders() = 1", "asks(0, 1, 0) ! 7", "asks(0, 2, 1) ! 0", "text 1=1?p", "orders() ! -1", "asks(0, 1, 0) ! 7");
  }

  static void why() {
    StringBuilder all = new StringBuilder("w=1?p0");
    for (int i = 1; i < 28; i++) all.append(i % 2 == 0 ? ";w=1?p0" : ";w=2?p0");
    Run.of(due, "promise 32", "why(0, 1) ! 0", "text w=1?p1;w=2?p1;w<3?p0;k=0?m1", "orders() = 0", "why(0, 1) ! 13", "why(0, 2) ! 14", "why(0, 3) ! 8", "why(19, 1) ! 13", "why(-1, 1) ! -1", "why(20, 1) ! -1", "why(MIN, 1) ! -1", "why(MAX, 1) ! -1", "why(0, 0) ! -1", "why(0, 4) ! -1",
        "why(0, MIN) ! -1", "why(0, MAX) ! -1",
        // Twenty-eight clauses, seven bytes each, are all that 200 bytes can have.
        "text " + all, "orders() = 1", "why(0, 1) ! " + 0x5555555, "why(0, 2) ! " + 0xAAAAAAA, "why(0, 3) ! 0");
  }

  static void lettersAtTheirEdges() {
    // f and k: none, and all twelve of one corner; p s l c of none and of sixteen.
    Run.of(due, "letters f, k", "text f=0&k=0?p1;f=6&k=12?p2;f=1&k=1?p3", "orders() = 0", "asks(0, 1, 0) ! 1", "house(0, 0, 1, 1, -1) = 0", "asks(0, 1, 0) ! 3", "asks(1, 1, 0) ! 1", "house(0, 0, 6, 1, -1) = 1", "house(0, 0, 2, 1, -1) * 10", "asks(0, 1, 0) ! 2");
    Run.of(due, "letters p, s, l, c", "text p=0&s=0&l=0&c=0?p1;p=4&s=4&l=4&c=4?p2;p=16?p3", "orders() = 0", "asks(0, 1, 0) ! 1", "crew(0, 0, false, 100, 1) * 4", "crew(1, 0, false, 100, 1) * 4", "crew(2, 0, false, 100, 1) * 4", "crew(3, 0, false, 100, 1) * 4", "asks(0, 1, 0) ! 2");
    Run.of(due, "letter p, sixteen", "text p=16?p9;p=7?p1;p=0?p2", "orders() = 0", "crew(0, 0, false, 100, 1) * 16", "asks(0, 1, 0) ! 9", "call(0) = 0", "called(0, 5) ! 9", "asks(0, 1, 0) ! 1", "call(0) = 0", "call(0) = 0", "called(0, 5) ! 10");
    // h: 0 at minutes 0 and 59, 1 at 60; 23 at 1,439, 0 at 1,440.
    Run.of(due, "letter h", "text h=0?p1;h=1?p2;h=22?p3;h=23?p4;h=24?p5", "orders() = 0", "asks(0, 1, 0) ! 1", "tick(59) = 59", "asks(0, 1, 0) ! 1", "tick(1) = 60", "asks(0, 1, 0) ! 2", "tick(59) = 119", "asks(0, 1, 0) ! 2", "tick(1) = 120", "asks(0, 1, 0) ! 0", "tick(300) * 4", "tick(59) = 1379", "asks(0, 1, 0) ! 3",
        "tick(1) = 1380", "asks(0, 1, 0) ! 4", "tick(59) = 1439", "asks(0, 1, 0) ! 4", "tick(1) = 1440", "asks(0, 1, 0) ! 1", "tick(60) = 1500", "asks(0, 1, 0) ! 2");
    // w of the next WORD as it comes: the first, second, third.
    Run.of(due, "letter w", "text w=1?p1;w=2?s1;w=3?l1", "orders() = 0", "call(0) = 0", "called(0, 6) ! 1", "call(0) = 0", "called(0, 6) ! 2", "call(0) = 0", "called(0, 6) ! 3", "call(0) = 0", "called(0, 6) ! 3");
    // a 0 without any, 100, and 50 with an OPEN one that does not count.
    Run.of(due, "letter a", "text a=0?c1;a=100?c1p1;a=50?c1p2", "orders() = 0", "crew(3, 0, false, 100, 1) = 0", "call(0) = 0", "called(0, 6) ! 0", "tick(1) = 1", "call(0) = 1", "called(1, 6) ! 1", "asks(0, 2, 0) ! 1");
  }

  static void othersOpen() {
    Run.of(due, "letter o", "text o=0?p1;o=1?p2;o=2?p3", "orders() = 0", "asks(0, 1, 0) ! 1", "call(0) = 0", "called(0, 6) ! 1", "asks(0, 2, 0) ! 1", "asks(1, 1, 0) ! 2", "call(1) = 1", "called(1, 6) ! 2", "asks(0, 2, 0) ! 2", "asks(1, 2, 0) ! 2", "asks(2, 1, 0) ! 3", "call(0) = 0", "called(0, 6) ! 3");
    // CLOSED ones are none of them.
    Run.of(due, "letter o, CLOSED", "crew(3, 0, false, 100, 1) = 0", "text o=0?c1;o=1?p2", "orders() = 0", "call(0) = 0", "asks(1, 1, 0) ! 2", "tick(1) = 1", "called(0, 2) ! 2", "asks(1, 1, 0) ! 0", "asks(1, 1, 3) ! 1");
  }
}
