import java.util.ArrayList;
import java.util.Arrays;
import java.util.List;

/** The edges of promises 46 to 51: rows, put, lose, copy, judge, loss; and of promise 53: count. */
public final class EdgesOfRowsTest {
  static final Due due = new Due();

  public static void main(String[] args) {
    row();
    put();
    putWraps();
    putFloats();
    lose();
    copyWhich();
    copyWhere();
    copyWithin();
    copyNothing();
    judge();
    judgeLimit();
    loss();
    count();
    countFull();
    due.over();
  }

  static void run(String part, List<String> first, String... then) {
    List<String> all = new ArrayList<>(first);
    all.addAll(Arrays.asList(then));
    Run.of(due, part, all.toArray(new String[0]));
  }

  static void row() {
    Run.of(due, "promise 46", "row(-1) ! -1", "row(4) ! -1", "row(MIN) ! -1", "row(MAX) ! -1", "count(16) ! 0", "row(0) = 0", "row(3) = 1", "row(1) = 2", "row(2) = 3", "row(-1) ! -1", "row(0) = 4", "count(16) ! 5", "row(3) = 5", "row(0) ! -1", "row(3) ! -1", "row(4) ! -1", "count(16) ! 6", "judge(5, 1048575, 100) ! 0.0", "judge(6, 1048575, 100) ! NaN", "put(5, 19, 8) = true", "put(6, 19, 8) ! false",
        // One that is LOST has its number still: there are six.
        "lose(0) = true", "row(0) ! -1", "count(16) ! 6");
    Run.of(due, "promise 46, at first", "row(0) = 0", "row(1) = 1", "row(2) = 2", "row(3) = 3", "judge(0, 1048575, 0) ! 0.0", "judge(1, 1048575, 0) ! 0.0", "judge(2, 1048575, 0) ! 0.0", "judge(3, 1048575, 0) ! 0.0");
  }

  static void put() {
    Run.of(due, "promise 47", "put(0, 0, 1) ! false", "row(2) = 0", "row(3) = 1", "put(-1, 0, 1) ! false", "put(2, 0, 1) ! false", "put(MIN, 0, 1) ! false", "put(MAX, 0, 1) ! false", "put(0, -1, 1) ! false", "put(0, 20, 1) ! false", "put(0, MIN, 1) ! false", "put(0, MAX, 1) ! false", "put(0, 0, 1000001) ! false", "put(0, 0, -1000001) ! false", "put(0, 0, MIN) ! false",
        "put(0, 0, MAX) ! false", "put(1, 0, 1000001) ! false", "put(1, 0, -1000001) ! false", "judge(0, 1048575, 0) ! 0.0", "put(0, 0, 0) ! true", "put(0, 0, 1000000) = true", "judge(0, 1, 0) ! 2000000.0", "put(0, 19, -1000000) = true", "judge(0, 524288, 0) ! -2000000.0", "put(0, 19, 999999) = true", "judge(0, 524288, 0) ! 1999998.0", "put(0, 19, -999999) = true",
        "judge(0, 524288, 0) ! -1999998.0", "judge(0, 1, 0) ! 2000000.0", "judge(1, 1, 0) ! 0.0", "lose(0) = true", "put(0, 0, 1) ! false", "put(0, 20, 1) ! false", "put(1, 0, 1) = true");
  }

  // The wrapped number: (byte) v, (short) v; an int is v.
  static void putWraps() {
    int[] values = {127, 128, 129, 255, 256, -128, -129, -256, 300, 32767, 32768, 32769, 65535, 65536, -32768, -32769, -65536, 999999, 1000000, -999999, -1000000, 0, 1, -1};
    for (int v : values) {
      Run.of(due, "promise 47, " + v, "row(0) = 0", "row(1) = 1", "row(2) = 2", "put(0, 7, " + v + ") = true", "put(1, 7, " + v + ") = true", "put(2, 7, " + v + ") = true", "judge(0, 128, 0) ! " + 2.0 * (byte) v, "judge(1, 128, 0) ! " + 2.0 * (short) v, "judge(2, 128, 0) ! " + 2.0 * v);
    }
    due.part("promise 47, by number");
    int[][] told = {{0, 128, -256}, {0, 1000000, 128}, {0, -1000000, -128}, {1, 32768, -65536}, {1, 1000000, 33920}, {1, -1000000, -33920}};
    for (int[] t : told) Run.of(due, "promise 47, by number", "row(" + t[0] + ") = 0", "put(0, 0, " + t[1] + ") = true", "judge(0, 1, 0) ! " + t[2] + ".0");
  }

  static void putFloats() {
    Run.of(due, "promise 47, floats", "row(3) = 0", "put(0, 5, 1) = true", "judge(0, 32, 0) ! 0.25", "put(0, 5, -1) = true", "judge(0, 32, 0) ! -0.25", "put(0, 5, 7) = true", "judge(0, 32, 0) ! 1.75", "put(0, 5, 8) = true", "judge(0, 32, 0) ! 2.0", "put(0, 5, 1000000) = true", "judge(0, 32, 0) ! 250000.0", "put(0, 5, 999999) = true", "judge(0, 32, 0) ! 249999.75",
        "put(0, 5, -999999) = true", "judge(0, 32, 0) ! -249999.75", "put(0, 5, -1000000) = true", "judge(0, 32, 0) ! 2000.0", "put(0, 5, 0) = true", "judge(0, 32, 0) ! 0.0",
        // NaN of a corner that has no points counts nothing.
        "put(0, 6, -1000000) = true", "judge(0, 32, 0) ! 0.0", "judge(0, 96, 0) ! 2000.0", "judge(0, 64, 0) ! 2000.0");
  }

  static void lose() {
    Run.of(due, "promise 48", "lose(0) ! false", "row(2) = 0", "row(2) = 1", "put(0, 0, 4) = true", "lose(-1) ! false", "lose(2) ! false", "lose(6) ! false", "lose(MIN) ! false", "lose(MAX) ! false", "lose(0) = true", "lose(0) ! false", "put(0, 0, 1) ! false", "judge(0, 1, 0) ! NaN", "loss(0, 1, 0, 0) ! NaN", "copy(0, 0, 1, 0, 1) ! 2", "copy(1, 0, 0, 0, 1) ! 2", "count(16) ! 2",
        "lose(1) = true", "lose(1) ! false", "row(1) = 2", "judge(2, 1, 0) ! 0.0");
  }

  // Row 0, 1 int; 2 float; 3 int, LOST; 4 byte; places 0 to 19 of row 0 have 1 to 20.
  static final List<String> ROWS = rows();

  static List<String> rows() {
    List<String> out = new ArrayList<>(List.of("row(2) = 0", "row(2) = 1", "row(3) = 2", "row(2) = 3", "row(0) = 4", "lose(3) = true"));
    for (int c = 0; c < 20; c++) out.add("put(0, " + c + ", " + (c + 1) + ") = true");
    return out;
  }

  static void copyWhich() {
    run("promise 49, which", ROWS, "copy(-1, 0, 1, 0, 1) ! 1", "copy(5, 0, 1, 0, 1) ! 1", "copy(0, 0, -1, 0, 1) ! 1", "copy(0, 0, 5, 0, 1) ! 1", "copy(MIN, 0, 1, 0, 1) ! 1", "copy(MAX, 0, 1, 0, 1) ! 1", "copy(0, 0, MIN, 0, 1) ! 1", "copy(0, 0, MAX, 0, 1) ! 1", "copy(3, 0, 1, 0, 1) ! 2", "copy(0, 0, 3, 0, 1) ! 2", "copy(3, 0, 3, 0, 1) ! 2", "copy(0, 0, 2, 0, 1) ! 3",
        "copy(2, 0, 0, 0, 1) ! 3", "copy(0, 0, 4, 0, 1) ! 3", "copy(4, 0, 2, 0, 1) ! 3",
        // Of several the first told: no such row, LOST, unlike, outside.
        "copy(3, 0, 5, 0, 1) ! 1", "copy(5, -1, 3, 0, 99) ! 1", "copy(3, 0, 2, 0, 1) ! 2", "copy(2, -1, 3, 0, 99) ! 2", "copy(0, -1, 2, 0, 99) ! 3", "copy(0, 0, 1, 0, 99) ! 4");
  }

  static void copyWhere() {
    run("promise 49, where", ROWS, "copy(0, -1, 1, 0, 1) ! 4", "copy(0, 20, 1, 0, 1) ! 4", "copy(0, 0, 1, -1, 1) ! 4", "copy(0, 0, 1, 20, 1) ! 4", "copy(0, 0, 1, 0, -1) ! 4", "copy(0, 0, 1, 0, 21) ! 4", "copy(0, 1, 1, 0, 20) ! 4", "copy(0, 0, 1, 1, 20) ! 4", "copy(0, 15, 1, 0, 6) ! 4", "copy(0, 0, 1, 15, 6) ! 4", "copy(0, MIN, 1, 0, 1) ! 4", "copy(0, MAX, 1, 0, 1) ! 4",
        "copy(0, 0, 1, MIN, 1) ! 4", "copy(0, 0, 1, MAX, 1) ! 4", "copy(0, 0, 1, 0, MIN) ! 4", "copy(0, 0, 1, 0, MAX) ! 4", "copy(0, MAX, 1, 0, MAX) ! 4", "copy(0, 1, 1, 1, MAX) ! 4", "judge(1, 1048575, 0) ! 0.0", "copy(0, 19, 1, 0, 1) = 0", "judge(1, 1, 0) ! 40.0", "copy(0, 0, 1, 19, 1) = 0", "judge(1, 524288, 0) ! 2.0", "copy(0, 15, 1, 0, 5) = 0", "judge(1, 16, 0) ! 40.0",
        "judge(1, 32, 0) ! 0.0", "copy(0, 0, 1, 15, 5) = 0", "judge(1, 32768, 0) ! 2.0", "judge(1, 16384, 0) ! 0.0", "copy(0, 0, 1, 0, 20) = 0", "judge(1, 1048575, 0) ! 420.0", "judge(0, 1048575, 0) ! 420.0");
  }

  // As rows are copied: what is there as the copying begins.
  static void copyWithin() {
    run("promise 49, within one", ROWS, "copy(0, 0, 0, 1, 19) = 0", "judge(0, 1, 0) ! 2.0", "judge(0, 2, 0) ! 2.0", "judge(0, 4, 0) ! 4.0", "judge(0, 524288, 0) ! 38.0", "judge(0, 1048575, 0) ! 382.0", "copy(0, 1, 0, 0, 19) = 0", "judge(0, 1, 0) ! 2.0", "judge(0, 2, 0) ! 4.0", "judge(0, 262144, 0) ! 38.0", "judge(0, 524288, 0) ! 38.0",
        "copy(0, 5, 0, 5, 10) ! 0", "copy(0, 0, 0, 0, 20) ! 0", "copy(0, 0, 0, 1, 20) ! 4", "copy(0, 1, 0, 0, 20) ! 4");
    Run.of(due, "promise 49, floats", "row(3) = 0", "row(3) = 1", "put(0, 3, -1000000) = true", "put(0, 4, 12) = true", "copy(0, 3, 1, 18, 2) = 0", "judge(1, 262144, 0) ! 2000.0", "judge(1, 524288, 0) ! 3.0", "copy(0, 3, 1, 19, 2) ! 4", "copy(1, 17, 1, 18, 1) = 0", "judge(1, 262144, 0) ! 0.0");
    Run.of(due, "promise 49, bytes and shorts", "row(0) = 0", "row(0) = 1", "row(1) = 2", "row(1) = 3", "put(0, 0, 200) = true", "put(2, 0, 40000) = true", "copy(0, 0, 1, 1, 1) = 0", "judge(1, 2, 0) ! -112.0", "copy(2, 0, 3, 1, 1) = 0", "judge(3, 2, 0) ! -51072.0", "copy(0, 0, 2, 0, 1) ! 3");
  }

  static void copyNothing() {
    run("promise 49, none", ROWS, "copy(0, 0, 1, 0, 0) ! 0", "copy(0, 20, 1, 20, 0) ! 0", "copy(0, 21, 1, 0, 0) ! 4", "copy(0, 0, 1, 21, 0) ! 4", "copy(0, -1, 1, 0, 0) ! 4", "copy(0, 0, 1, -1, 0) ! 4", "copy(0, 0, 2, 0, 0) ! 3", "copy(0, 0, 3, 0, 0) ! 2", "copy(0, 0, 5, 0, 0) ! 1");
  }

  static void judge() {
    Run.of(due, "promise 50", "judge(0, 0, 0) ! NaN", "row(2) = 0", "put(0, 0, 5) = true", "put(0, 19, 7) = true", "judge(0, 1, 0) ! 10.0", "judge(-1, 1, 0) ! NaN", "judge(1, 1, 0) ! NaN", "judge(MIN, 1, 0) ! NaN", "judge(MAX, 1, 0) ! NaN", "judge(0, -1, 0) ! NaN", "judge(0, 1048576, 0) ! NaN", "judge(0, MIN, 0) ! NaN", "judge(0, MAX, 0) ! NaN", "judge(0, 1, -1) ! NaN", "judge(0, 1, 101) ! NaN",
        "judge(0, 1, MIN) ! NaN", "judge(0, 1, MAX) ! NaN", "judge(0, 0, 0) ! 0.0", "judge(0, 0, 100) ! 0.0", "judge(0, 1048575, 0) ! 24.0", "judge(0, 1048575, 100) ! 24.0", "judge(0, 524288, 100) ! 14.0", "judge(0, 524287, 0) ! 10.0", "lose(0) = true", "judge(0, 1, 0) ! NaN", "judge(0, 0, 0) ! NaN");
  }

  static void judgeLimit() {
    // 100 minutes and 101; 0 is the corner itself alone; 3 for two of them, or three.
    Run.of(due, "promise 50, limits", "street(0, 1, 20) = 0", "street(1, 2, 20) = 1", "street(2, 3, 20) = 2", "street(3, 4, 20) = 3", "street(4, 5, 20) = 4", "street(5, 6, 1) = 5", "row(2) = 0", "put(0, 5, 10) = true", "put(0, 6, 1) = true", "judge(0, 1, 100) ! 20.0", "judge(0, 1, 99) ! 0.0", "judge(0, 2, 80) ! 20.0", "judge(0, 2, 81) ! 22.0", "judge(0, 3, 100) ! 32.0",
        "judge(0, 7, 100) ! 33.0", "judge(0, 6, 81) ! 33.0", "judge(0, 6, 80) ! 32.0", "judge(0, 32, 0) ! 20.0", "judge(0, 96, 0) ! 22.0", "judge(0, 96, 1) ! 33.0", "judge(0, 224, 1) ! 33.0", "closed(5, true) = true", "judge(0, 96, 1) ! 33.0");
    // CALLS are not asked.
    Run.of(due, "promise 50, CALLS", "row(0) = 0", "put(0, 3, -5) = true", "judge(0, 8, 0) ! -10.0", "call(3) = 0", "judge(0, 8, 0) ! -10.0");
  }

  static void loss() {
    Run.of(due, "promise 51", "loss(0, 1, 0, 0) ! NaN", "street(0, 1, 4) = 0", "street(1, 2, 5) = 1", "row(3) = 0", "put(0, 0, 8) = true", "put(0, 1, 12) = true", "put(0, 2, -1000000) = true", "put(0, 19, 16) = true", "loss(0, 5, 5, 2) ! 2001.5", "loss(0, 5, 5, 0) ! 3.5", "loss(0, 5, 5, 1) ! NaN", "loss(0, 5, 5, 19) ! NaN", "loss(0, 5, 5, -1) ! NaN", "loss(0, 5, 5, 20) ! NaN",
        "loss(0, 5, 5, 32) ! NaN", "loss(0, 5, 5, 34) ! NaN", "loss(0, 5, 5, MIN) ! NaN", "loss(0, 5, 5, MAX) ! NaN", "loss(-1, 5, 5, 0) ! NaN", "loss(1, 5, 5, 0) ! NaN", "loss(MIN, 5, 5, 0) ! NaN", "loss(0, -1, 5, 0) ! NaN", "loss(0, 1048577, 5, 0) ! NaN", "loss(0, 1048576, 5, 0) ! NaN", "loss(0, MAX, 5, 0) ! NaN", "loss(0, 5, -1, 0) ! NaN", "loss(0, 5, 101, 0) ! NaN",
        "loss(0, 5, MAX, 0) ! NaN", "loss(0, 0, 5, 0) ! NaN", "loss(0, 1, 0, 0) ! 2.0", "loss(0, 524288, 0, 19) ! 4.0", "loss(0, 1048575, 100, 0) ! 0.0", "loss(0, 1048575, 100, 19) ! 4.0", "loss(0, 1048575, 0, 0) ! 2.0", "loss(0, 1, 100, 0) ! 2005.0", "lose(0) = true", "loss(0, 5, 5, 0) ! NaN");
  }

  static void count() {
    Run.of(due, "promise 53", "count(-1) ! -1", "count(17) ! -1", "count(MIN) ! -1", "count(MAX) ! -1", "street(0, 1, 3) = 0", "count(1) ! 1", "house(0, 0, 1, 1, -1) = 0", "count(2) ! 1", "crew(3, 0, false, 100, 1) = 0", "count(3) ! 1", "main(10) = 0", "count(14) ! 1", "head(0, 0) = 0", "count(15) ! 1", "row(0) = 0", "count(16) ! 1", "text 1=1?c1p2", "count(13) ! 8", "orders() = 0", "count(13) ! 0",
        "count(12) ! 1", "text 1=1?1", "act(1) = 0", "count(11) ! 1", "call(0) = 0", "count(4) ! 1", "count(5) ! 1", "count(6) ! 0", "count(7) ! 2", "tick(1) = 1", "count(0) ! 1", "count(4) ! 1", "count(5) ! 0", "count(6) ! 1", "count(8) ! 0", "count(9) ! 0", "count(10) ! 0");
    // SAVED and LOST in all: two houses, two ladders.
    Run.of(due, "promise 53, SAVED and LOST", "house(0, 2, 1, 1, -1) = 0", "house(1, 2, 1, 1, -1) = 1", "floor(0, 0, 500, 5) = true", "floor(1, 0, 500, 7) = true", "crew(2, 0, false, 100, 1) = 0", "crew(2, 1, false, 100, 1) = 1", "text 1=1?l1", "orders() = 0", "light(0, 0) = true", "light(1, 0) = true", "tick(3) = 3", "call(0) = 0", "call(1) = 1", "tick(1) = 4",
        "count(8) ! 4", "count(9) ! 2", "housed(0, 2) ! 2", "housed(1, 3) ! 1");
  }

  // Every one as great as it can be: forty streets, twelve houses, sixteen crews, six mains, twenty heads, six rows.
  static void countFull() {
    Run.of(due, "promise 53, full", "street(0, 1, 3) * 41", "house(0, 0, 1, 1, -1) * 13", "crew(3, 0, false, 100, 1) * 17", "main(10) * 7", "head(0, 0) * 21", "row(0) * 7", "count(1) ! 40", "count(2) ! 12", "count(3) ! 16", "count(14) ! 6", "count(15) ! 20", "count(16) ! 6");
  }
}
