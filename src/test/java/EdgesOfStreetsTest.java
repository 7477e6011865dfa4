/** The edges of promises 1 to 6: just within, just beyond, none, all forty, and nothing changed by what is refused. */
public final class EdgesOfStreetsTest {
  static final Due due = new Due();

  public static void main(String[] args) {
    emptyCity();
    street();
    fortyStreets();
    jam();
    closed();
    comeArguments();
    comeByParts();
    comeCutUp();
    comeWithoutWaiting();
    comeUpTo600();
    feet();
    longestFeet();
    due.over();
  }

  static void emptyCity() {
    String[] lines = {
        "tick(0) ! 0", "come(0, 0, 0, 50) ! 0", "come(19, 19, 30000, 300) ! 30000", "come(0, 1, 0, 100) ! -1", "feet(0, 0) ! 0", "feet(19, 19) ! 0",
        "feet(0, 1) ! -1", "jam(0, 0, 100) ! false", "closed(0, true) ! false", "closed(0, false) ! false", "build(0, true, 0, 1) ! false",
        "use(0, 0) ! false", "floor(0, 0, 0, 0) ! false", "light(0, 0) ! false", "room(0, 0, 0) ! -1", "floored(0, 0, 0) ! -1", "housed(0, 0) ! -1",
        "head(0, 0) ! -1", "gear(0, 100, 10, 0) ! false", "heal(0) ! false", "recall(0) ! false", "about(0, 0) ! throws NoSuchElementException",
        "reach(0, 0) ! -1", "called(0, 0) ! -1", "falses(0, 0) ! 0", "feed(0, 0, 0, 0, 0) ! 0", "end(0) ! true", "end(1) ! false",
        "fault(0) ! 0", "fault(1) ! 0", "fault(2) ! 0", "orders() ! -1", "leaving() ! false", "act(1) ! -1", "asks(0, 1, 0) ! 0", "asks(19, 3, 4) ! 0",
        "why(0, 1) ! 0", "force(0, 0) ! -1", "change(0, 0, 0) ! false", "used(0, 0) ! -1", "look(0) ! false", "fails(0, 0) ! -1", "code(0, 0, 0) ! -1",
        "failing() ! 0", "round(0, 500, 0) ! 0", "round(0, 500, 1) ! 0", "round(0, 500, 2) ! 0", "rounded(0, 500, 0) ! -1", "plan(1, 1) ! 0",
        "planned(1, 1, 0) ! 0", "planned(4, 100, 3) ! 3", "put(0, 0, 0) ! false", "lose(0) ! false", "copy(0, 0, 0, 0, 0) ! 1", "judge(0, 0, 0) ! NaN",
        "loss(0, 1, 0, 0) ! NaN", "what(0, 0, 0, 1) ! -1"};
    Run.of(due, "promise 1", lines);
    for (int what = 0; what <= 16; what++) Run.of(due, "promise 1, count", "count(" + what + ") ! 0");
    Run.of(due, "promise 1, count", "count(-1) ! -1", "count(17) ! -1");
    // The 512th call is answered as any other one.
    Run.of(due, "512 calls", "street(0, 1, 21) * 510", "street(0, 1, 20) = 0", "feet(0, 1) = 2000");
    Run.of(due, "512 calls", "row(4) * 511", "row(3) = 0");
  }

  static void street() {
    Run.of(due, "promise 2", "street(0, 19, 20) = 0",
        "street(-1, 1, 5) ! -1", "street(20, 1, 5) ! -1", "street(1, -1, 5) ! -1", "street(1, 20, 5) ! -1", "street(0, 1, 0) ! -1", "street(0, 1, 21) ! -1",
        "street(0, 0, 5) ! -1", "street(19, 19, 5) ! -1", "street(MIN, 1, 5) ! -1", "street(MAX, 1, 5) ! -1", "street(1, MIN, 5) ! -1", "street(1, MAX, 5) ! -1",
        "street(0, 1, MIN) ! -1", "street(0, 1, MAX) ! -1", "street(0, 1, -1) ! -1", "count(1) ! 1", "feet(0, 19) ! 2000",
        "street(19, 0, 1) = 1", "feet(0, 19) ! 100", "street(0, 1, 1) = 2", "street(18, 19, 20) = 3", "street(0, 19, 20) = 4", "count(1) ! 5");
  }

  static void fortyStreets() {
    Run.of(due, "promise 2, forty", "street(0, 1, 3) * 38", "count(1) = 38", "street(1, 2, 4) = 38", "street(2, 3, 5) = 39",
        "street(3, 4, 5) ! -1", "street(0, 1, 1) ! -1", "count(1) ! 40", "feet(0, 1) ! 300", "feet(3, 4) ! -1",
        "jam(39, 0, 200) = true", "jam(40, 0, 200) ! false", "come(2, 3, 0, 100) ! 10", "closed(39, true) = true", "closed(40, true) ! false", "come(2, 3, 0, 100) ! -1");
  }

  static void jam() {
    Run.of(due, "promise 3", "street(0, 1, 10) = 0", "street(0, 2, 10) = 1",
        "jam(-1, 0, 200) ! false", "jam(2, 0, 200) ! false", "jam(MIN, 0, 200) ! false", "jam(MAX, 0, 200) ! false",
        "jam(0, -1, 200) ! false", "jam(0, 4, 200) ! false", "jam(0, MIN, 200) ! false", "jam(0, MAX, 200) ! false",
        "jam(0, 0, 99) ! false", "jam(0, 0, 401) ! false", "jam(0, 0, 0) ! false", "jam(0, 0, MIN) ! false", "jam(0, 0, MAX) ! false",
        "come(0, 1, 0, 100) ! 10", "come(0, 1, 1080, 100) ! 1090",
        // 100 at first is taken, too, and is no change.
        "jam(0, 0, 100) ! true", "jam(0, 0, 400) = true", "come(0, 1, 0, 100) ! 40", "come(0, 1, 360, 100) ! 370", "come(0, 2, 0, 100) ! 10",
        "jam(0, 3, 101) = true", "come(0, 1, 1080, 100) ! 1091", "jam(0, 0, 399) = true", "come(0, 1, 0, 100) ! 40",
        "jam(0, 0, 100) = true", "come(0, 1, 0, 100) ! 10", "jam(1, 3, 400) = true", "come(0, 2, 1080, 100) ! 1120");
  }

  static void closed() {
    Run.of(due, "promise 4", "street(0, 1, 10) = 0", "street(0, 1, 15) = 1",
        "closed(-1, true) ! false", "closed(2, true) ! false", "closed(MIN, true) ! false", "closed(MAX, true) ! false",
        "closed(0, false) ! false", "closed(0, true) = true", "closed(0, true) ! false", "come(0, 1, 0, 100) ! 15", "come(1, 0, 0, 100) ! 15",
        "closed(1, true) = true", "come(0, 1, 0, 100) ! -1", "come(0, 0, 0, 100) ! 0", "feet(0, 1) ! 1000",
        "closed(0, false) = true", "closed(0, false) ! false", "come(1, 0, 0, 100) ! 10");
  }

  static void comeArguments() {
    Run.of(due, "promise 5", "street(0, 19, 4) = 0",
        "come(0, 19, 0, 100) ! 4", "come(19, 0, 0, 100) ! 4", "come(0, 19, 30000, 100) ! 30004", "come(0, 19, -1, 100) ! -1", "come(0, 19, 30001, 100) ! -1",
        "come(0, 19, MIN, 100) ! -1", "come(0, 19, MAX, 100) ! -1", "come(0, 19, 0, 50) ! 2", "come(0, 19, 0, 49) ! -1", "come(0, 19, 0, 300) ! 12",
        "come(0, 19, 0, 301) ! -1", "come(0, 19, 0, MIN) ! -1", "come(0, 19, 0, MAX) ! -1", "come(-1, 19, 0, 100) ! -1", "come(20, 19, 0, 100) ! -1",
        "come(0, -1, 0, 100) ! -1", "come(0, 20, 0, 100) ! -1", "come(MIN, 19, 0, 100) ! -1", "come(0, MAX, 0, 100) ! -1", "come(MAX, MAX, 0, 100) ! -1",
        "come(-1, -1, 0, 100) ! -1", "come(20, 20, 0, 100) ! -1",
        // The same corner: only if all else is within bounds.
        "come(5, 5, 30000, 300) ! 30000", "come(5, 5, 30001, 300) ! -1", "come(5, 5, -1, 300) ! -1", "come(5, 5, 7, 49) ! -1", "come(5, 5, 7, 301) ! -1",
        "come(0, 5, 0, 100) ! -1", "come(5, 0, 0, 100) ! -1");
  }

  static void comeByParts() {
    Run.of(due, "promise 5, PARTS", "street(0, 1, 10) = 0", "jam(0, 1, 200) = true", "jam(0, 2, 300) = true", "jam(0, 3, 400) = true",
        "come(0, 1, 0, 100) ! 10", "come(0, 1, 359, 100) ! 369", "come(0, 1, 360, 100) ! 380", "come(0, 1, 719, 100) ! 739", "come(0, 1, 720, 100) ! 750",
        "come(0, 1, 1079, 100) ! 1109", "come(0, 1, 1080, 100) ! 1120", "come(0, 1, 1439, 100) ! 1479", "come(0, 1, 1440, 100) ! 1450",
        "come(0, 1, 29879, 100) ! 29909", "come(0, 1, 29880, 100) ! 29920", "come(0, 1, 30000, 100) ! 30040");
    // The PART is that in which a street is entered, not that in which it is left.
    Run.of(due, "promise 5, two streets", "street(0, 1, 4) = 0", "street(1, 2, 5) = 1", "jam(1, 1, 400) = true",
        "come(0, 2, 355, 100) ! 364", "come(0, 2, 356, 100) ! 380", "come(0, 2, 359, 100) ! 383");
  }

  static void comeCutUp() {
    Run.of(due, "promise 5, cut up", "street(0, 1, 1) = 0", "street(2, 3, 20) = 1", "jam(1, 0, 400) = true", "jam(0, 1, 200) = true",
        "come(0, 1, 0, 50) ! 1", "come(0, 1, 0, 99) ! 1", "come(0, 1, 0, 100) ! 1", "come(0, 1, 0, 101) ! 2", "come(0, 1, 0, 200) ! 2", "come(0, 1, 0, 201) ! 3",
        "come(0, 1, 0, 300) ! 3", "come(0, 1, 360, 50) ! 361", "come(0, 1, 360, 51) ! 362", "come(2, 3, 0, 300) ! 240", "come(2, 3, 0, 299) ! 240",
        // 20 times 299 times 400 is 2,392,000: 239.2; 20 times 295 times 400 is 236 and no more.
        "come(2, 3, 0, 295) ! 236", "come(2, 3, 0, 50) ! 40",
        // 1 times 113 times 177 is 20,001; 4 times 393 times 299 is 470,028; 4 times 400 times 250 is 400,000.
        "jam(0, 2, 113) = true", "come(0, 1, 720, 177) ! 723", "come(0, 1, 720, 176) ! 722", "street(4, 5, 4) = 2", "jam(2, 0, 393) = true", "come(4, 5, 0, 299) ! 48", "jam(2, 0, 400) = true", "come(4, 5, 0, 250) ! 40");
  }

  static void comeWithoutWaiting() {
    Run.of(due, "promise 5, without waiting", "street(0, 1, 10) = 0", "jam(0, 0, 400) = true",
        "come(0, 1, 359, 100) ! 399", "come(0, 1, 360, 100) ! 370",
        // Over corner 2 and back it is minute 361: going twice through one street is no waiting.
        "street(0, 2, 1) = 1", "come(0, 1, 359, 100) ! 371", "come(0, 1, 358, 100) ! 370", "closed(1, true) = true", "come(0, 1, 359, 100) ! 399");
  }

  static void comeUpTo600() {
    String[] lines = new String[62];
    int n = 0;
    for (int i = 0; i < 7; i++) lines[n++] = "street(" + i + ", " + (i + 1) + ", 20) = " + i;
    lines[n++] = "street(7, 8, 10) = 7";
    lines[n++] = "street(7, 9, 20) = 8";
    for (int i = 0; i < 9; i++) for (int part = 0; part < 4; part++) lines[n++] = "jam(" + i + ", " + part + ", " + (i == 8 ? 205 : 400) + ") = true";
    // Seven of 80 and one of 40, or of 41.
    String[] asked = {"come(0, 8, 0, 100) ! 600", "come(0, 9, 0, 100) ! -1", "come(8, 0, 0, 100) ! 600", "come(9, 0, 0, 100) ! -1", "come(0, 8, 30000, 100) ! 30600",
        "come(0, 9, 30000, 100) ! -1", "come(1, 9, 0, 100) ! 521", "come(0, 7, 0, 100) ! 560", "come(0, 8, 0, 101) ! -1", "come(8, 9, 0, 100) ! 81",
        "come(0, 7, 0, 107) ! -1", "come(0, 7, 0, 106) ! 595", "come(0, 8, 1, 100) ! 601", "come(0, 9, 1, 100) ! -1", "feet(0, 9) ! 16000", "feet(0, 8) ! 15000",
        "come(0, 8, 359, 100) ! 959"};
    for (String a : asked) lines[n++] = a;
    Run.of(due, "promise 5, up to 600", java.util.Arrays.copyOf(lines, n));
  }

  static void feet() {
    Run.of(due, "promise 6", "street(0, 1, 1) = 0", "street(1, 19, 20) = 1",
        "feet(0, 1) ! 100", "feet(1, 19) ! 2000", "feet(0, 19) ! 2100", "feet(19, 0) ! 2100", "feet(0, 0) ! 0", "feet(18, 18) ! 0", "feet(0, 18) ! -1", "feet(18, 0) ! -1",
        "feet(-1, 0) ! -1", "feet(20, 0) ! -1", "feet(0, -1) ! -1", "feet(0, 20) ! -1", "feet(-1, -1) ! -1", "feet(20, 20) ! -1", "feet(MIN, 0) ! -1", "feet(0, MAX) ! -1",
        "closed(1, true) = true", "feet(0, 19) ! 2100", "jam(0, 0, 400) = true", "feet(0, 1) ! 100",
        "street(0, 19, 20) = 2", "feet(0, 19) ! 2000", "street(19, 0, 20) = 3", "feet(0, 19) ! 2000", "street(0, 19, 19) = 4", "feet(0, 19) ! 1900");
  }

  static void longestFeet() {
    String[] lines = new String[24];
    for (int i = 0; i < 19; i++) lines[i] = "street(" + i + ", " + (i + 1) + ", 20) = " + i;
    String[] asked = {"feet(0, 19) ! 38000", "feet(19, 0) ! 38000", "feet(0, 18) ! 36000", "come(0, 19, 0, 100) ! 380", "come(0, 19, 0, 157) ! 600"};
    // 31.4 cut up is 32 for each of nineteen streets: 608 is too much, 31 each is 589.
    asked[4] = "come(0, 19, 0, 157) ! -1";
    System.arraycopy(asked, 0, lines, 19, 5);
    Run.of(due, "promise 6, the longest way", lines);
    lines[23] = "come(0, 19, 0, 155) ! 589";
    Run.of(due, "promise 6, the longest way", lines);
  }
}
