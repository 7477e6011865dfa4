/** The edges of promises 15 to 22: mains, heads, crews, gear, heal, recall, about, reach. */
public final class EdgesOfCrewsTest {
  static final Due due = new Due();

  public static void main(String[] args) {
    mains();
    heads();
    crew();
    sixteenCrews();
    gear();
    gearByState();
    gearAtFirst();
    heal();
    recall();
    recallThatCannotCome();
    about();
    aboutNone();
    tired();
    reach();
    reachOfHeads();
    due.over();
  }

  static void mains() {
    Run.of(due, "promise 15", "main(9) ! -1", "main(2001) ! -1", "main(0) ! -1", "main(-10) ! -1", "main(MIN) ! -1", "main(MAX) ! -1", "count(14) ! 0",
        "main(10) = 0", "main(2000) = 1", "main(11) = 2", "main(1999) = 3", "main(10) = 4", "count(14) ! 5", "main(10) = 5", "main(10) ! -1", "main(2000) ! -1", "count(14) ! 6",
        "head(0, 5) = 0", "head(0, 6) ! -1");
    // GIVES 10 and 2,000 are given: 10 of 500 asked; 4 times 500 without sharing, five times 400 each.
    Run.of(due, "promise 15, GIVES 10", "main(10) = 0", "head(0, 0) = 0", "house(0, 2, 1, 1, -1) = 0", "floor(0, 0, 500, 0) = true", "crew(0, 0, false, 100, 1) = 0", "gear(0, 100, 500, 0) = true", "text 1=1?p9", "orders() = 0",
        "light(0, 0) = true", "call(0) = 0", "tick(1) = 1", "about(0, 8) ! 10");
    // Four ask for 2,000: no more than it gives. Five ask for 2,500: each gets 400 of its 500.
    for (int pumps = 4; pumps <= 5; pumps++) {
      String[] lines = new String[23];
      int n = 0;
      for (String s : new String[] {"main(2000) = 0", "head(0, 0) = 0", "house(0, 2, 1, 1, -1) = 0", "floor(0, 0, 500, 0) = true"}) lines[n++] = s;
      for (int i = 0; i < 5; i++) {
        lines[n++] = "crew(0, 0, false, 100, 1) = " + i;
        lines[n++] = "gear(" + i + ", 100, 500, 0) = true";
      }
      int each = pumps == 4 ? 500 : 400;
      for (String s : new String[] {"text 1=1?p" + pumps, "orders() = 0", "light(0, 0) = true", "call(0) = 0", "tick(1) = 1", "about(0, 8) ! " + each, "about(3, 8) ! " + each, "about(4, 8) ! " + (pumps == 4 ? 0 : 400),
          "housed(0, 6) ! 2000"}) lines[n++] = s;
      Run.of(due, "promise 15, GIVES 2,000 to " + pumps, lines);
    }
  }

  static void heads() {
    String[] lines = new String[36];
    int n = 0;
    for (String s : new String[] {"head(0, 0) ! -1", "main(100) = 0", "main(100) = 1", "head(-1, 0) ! -1", "head(20, 0) ! -1", "head(MIN, 0) ! -1", "head(MAX, 0) ! -1", "head(0, -1) ! -1", "head(0, 2) ! -1",
        "head(0, MIN) ! -1", "head(0, MAX) ! -1", "count(15) ! 0", "head(0, 0) = 0", "head(19, 1) = 1"}) lines[n++] = s;
    for (int i = 2; i < 20; i++) lines[n++] = "head(" + (i - 1) + ", 0) = " + i;
    for (String s : new String[] {"head(0, 0) ! -1", "head(19, 1) ! -1", "count(15) ! 20", "head(20, 0) ! -1"}) lines[n++] = s;
    Run.of(due, "promise 16", lines);
    // The twentieth is used: it is the only one from which one can be there.
    String[] last = new String[26];
    n = 0;
    last[n++] = "main(100) = 0";
    last[n++] = "house(7, 2, 1, 1, -1) = 0";
    last[n++] = "crew(0, 7, false, 100, 1) = 0";
    for (int i = 0; i < 19; i++) last[n++] = "head(3, 0) = " + i;
    last[n++] = "reach(0, 0) ! -1";
    last[n++] = "head(7, 0) = 19";
    last[n++] = "reach(0, 0) ! 0";
    last[n++] = "head(7, 0) ! -1";
    Run.of(due, "promise 16, the twentieth", last);
  }

  static void crew() {
    Run.of(due, "promise 17", "crew(0, 3, true, 100, 5) = 0",
        "crew(-1, 0, false, 100, 1) ! -1", "crew(4, 0, false, 100, 1) ! -1", "crew(MIN, 0, false, 100, 1) ! -1", "crew(MAX, 0, false, 100, 1) ! -1",
        "crew(0, -1, false, 100, 1) ! -1", "crew(0, 20, false, 100, 1) ! -1", "crew(0, MIN, false, 100, 1) ! -1", "crew(0, MAX, false, 100, 1) ! -1",
        "crew(0, 0, false, 49, 1) ! -1", "crew(0, 0, false, 151, 1) ! -1", "crew(0, 0, true, MIN, 1) ! -1", "crew(0, 0, true, MAX, 1) ! -1",
        "crew(0, 0, false, 100, 0) ! -1", "crew(0, 0, false, 100, 10) ! -1", "crew(0, 0, true, 100, MIN) ! -1", "crew(0, 0, true, 100, MAX) ! -1", "count(3) ! 1",
        "crew(0, 0, false, 50, 1) = 1", "crew(3, 19, true, 150, 9) = 2", "about(1, 1) ! 0", "about(1, 7) ! 50", "about(2, 1) ! 19", "about(2, 7) ! 150", "about(2, 0) ! 0", "about(2, 6) ! 0", "count(3) ! 3");
    // MEN 1 and 9 as LEAVING knows them.
    for (int men : new int[] {1, 9}) Run.of(due, "promise 17, MEN " + men, "main(100) = 0", "head(0, 0) = 0", "house(0, 2, 1, 1, -1) = 0", "floor(0, 0, 500, 0) = true", "crew(0, 0, false, 100, " + men + ") = 0",
        "text 1=1?p1", "orders() = 0", "text m=" + men, "leaving() = true", "light(0, 0) = true", "call(0) = 0", "tick(1) = 1", "about(0, 8) ! 5", "text m<" + men + "|m>" + men, "leaving() = true", "tick(1) = 2", "about(0, 8) ! 10");
  }

  static void sixteenCrews() {
    Run.of(due, "promise 17, sixteen", "crew(2, 4, false, 100, 1) * 15", "count(3) = 15", "crew(3, 19, true, 150, 9) = 15", "crew(0, 0, false, 100, 1) ! -1", "crew(3, 19, true, 150, 9) ! -1", "count(3) ! 16",
        "about(15, 1) ! 19", "about(16, 0) ! throws NoSuchElementException", "gear(15, 0, 0, 0) ! true", "gear(16, 0, 0, 0) ! false", "heal(16) ! false", "recall(16) ! false",
        "text 1=1?l9c9", "orders() = 0", "call(4) = 0", "called(0, 5) ! 9", "called(0, 6) ! 9", "call(19) = 1", "about(15, 0) ! 1", "called(1, 5) ! 1", "called(1, 6) ! 17");
  }

  static void gear() {
    String[] refused = {
        "gear(-1, 100, 10, 0) ! false", "gear(4, 100, 10, 0) ! false", "gear(MIN, 100, 10, 0) ! false", "gear(MAX, 100, 10, 0) ! false",
        "gear(0, 99, 10, 0) ! false", "gear(0, 3001, 10, 0) ! false", "gear(0, MIN, 10, 0) ! false", "gear(0, MAX, 10, 0) ! false", "gear(0, 100, 9, 0) ! false", "gear(0, 100, 501, 0) ! false",
        "gear(0, 100, MIN, 0) ! false", "gear(0, 100, MAX, 0) ! false", "gear(0, 100, 10, -1) ! false", "gear(0, 100, 10, 1) ! false", "gear(0, 100, 10, 30) ! false", "gear(0, 100, 10, MIN) ! false",
        "gear(1, 99, 10, 1) ! false", "gear(1, 3001, 10, 1) ! false", "gear(1, 100, 9, 1) ! false", "gear(1, 100, 501, 1) ! false", "gear(1, 100, 10, 0) ! false", "gear(1, 100, 10, 31) ! false",
        "gear(1, 100, 10, -1) ! false", "gear(1, 100, 10, MAX) ! false", "gear(1, MIN, 10, 1) ! false", "gear(1, 100, MAX, 1) ! false",
        "gear(2, 0, 0, 0) ! false", "gear(2, 7, 0, 0) ! false", "gear(2, MIN, 0, 0) ! false", "gear(2, MAX, 0, 0) ! false", "gear(2, 1, 1, 0) ! false", "gear(2, 1, -1, 0) ! false", "gear(2, 1, 0, 1) ! false", "gear(2, 1, 0, -1) ! false",
        "gear(2, 100, 10, 0) ! false", "gear(3, 1, 0, 0) ! false", "gear(3, -1, 0, 0) ! false", "gear(3, 0, 1, 0) ! false", "gear(3, 0, -1, 0) ! false", "gear(3, 0, 0, 1) ! false", "gear(3, 0, 0, -1) ! false", "gear(3, 100, 10, 0) ! false"};
    String[] town = {"main(2000) = 0", "head(0, 0) = 0", "house(0, 2, 6, 1, -1) = 0", "crew(0, 0, false, 100, 1) = 0", "crew(1, 0, false, 100, 1) = 1", "crew(2, 0, false, 100, 1) = 2", "crew(3, 0, false, 100, 1) = 3", "text 1=1?p1s1l1c1", "orders() = 0"};
    run("promise 18, refused", town, refused);
    run("promise 18", town, "gear(0, 100, 10, 0) ! true", "gear(1, 100, 10, 1) ! true", "gear(2, 1, 0, 0) ! true", "gear(3, 0, 0, 0) ! true", "reach(0, 0) ! 4", "gear(0, 3000, 500, 0) = true", "reach(0, 0) ! 5",
        "gear(1, 3000, 500, 30) = true", "reach(1, 0) ! 5", "gear(1, 101, 499, 29) = true", "reach(1, 0) ! 4", "gear(2, 6, 0, 0) = true", "gear(0, 3001, 500, 0) ! false", "reach(0, 0) ! 5", "gear(0, 100, 10, 0) = true", "reach(0, 0) ! 4");
  }

  static void run(String part, String[] first, String... then) {
    String[] all = new String[first.length + then.length];
    System.arraycopy(first, 0, all, 0, first.length);
    System.arraycopy(then, 0, all, first.length, then.length);
    Run.of(due, part, all);
  }

  // READY, GOING, on its WAY and HURT it is told; at WORK it is not.
  static void gearByState() {
    Run.of(due, "promise 18, at WORK", "street(0, 1, 2) = 0", "house(1, 2, 1, 1, -1) = 0", "floor(0, 0, 500, 0) = true", "crew(0, 0, false, 100, 1) = 0", "text 1=1?p1", "orders() = 0", "light(0, 0) = true",
        "gear(0, 200, 20, 0) = true", "call(1) = 0", "about(0, 0) ! 1", "gear(0, 300, 30, 0) = true", "tick(1) = 1", "about(0, 0) ! 1", "gear(0, 400, 40, 0) = true", "tick(1) = 2", "about(0, 0) ! 2",
        "gear(0, 400, 40, 0) ! false", "gear(0, 500, 50, 0) ! false", "gear(0, 99, 50, 0) ! false", "floor(0, 0, 0, 0) = true", "tick(1) = 3", "about(0, 0) ! 3", "gear(0, 500, 50, 0) = true");
    run("promise 18, HURT", HURT, "about(0, 0) ! 4", "gear(0, 500, 50, 0) = true", "reach(0, 0) ! 1");
  }

  static void gearAtFirst() {
    // HOSE 100: floor 4 and not floor 5; GALLONS 10; of a STEAMER a MINUTE; HEIGHT 1.
    Run.of(due, "promise 18, at first", "main(2000) = 0", "head(0, 0) = 0", "house(0, 2, 6, 1, -1) = 0", "floor(0, 0, 500, 5) = true", "floor(0, 1, 0, 5) = true", "crew(0, 0, false, 100, 1) = 0", "crew(1, 0, false, 100, 1) = 1",
        "crew(2, 0, false, 100, 1) = 2", "crew(3, 0, false, 100, 1) = 3", "text 1=1?p1s1l1c1", "orders() = 0", "reach(0, 0) ! 4", "reach(1, 0) ! 4", "light(0, 0) = true", "call(0) = 0", "tick(1) = 1", "about(0, 8) ! 10", "about(1, 8) ! 0",
        "floored(0, 0, 2) ! 3", "floored(0, 1, 2) ! 5", "tick(1) = 2", "about(0, 8) ! 10", "about(1, 8) ! 10", "floored(0, 0, 2) ! 1", "tick(1) = 3", "floored(0, 0, 2) ! 0", "housed(0, 2) ! 5", "tick(1) = 4", "floored(0, 1, 2) ! 5");
  }

  // Floor 1 has burnt below for nine minutes (54 of 60) as it is lit: 56, 58, and 61 in minute 12: it falls with the pump on it.
  static final String[] HURT = {"main(1000) = 0", "head(1, 0) = 0", "street(0, 1, 3) = 0", "house(1, 0, 2, 1, -1) = 0", "floor(0, 0, 500, 0) = true", "floor(0, 1, 500, 0) = true", "crew(0, 1, true, 100, 1) = 0", "crew(0, 2, true, 100, 1) = 1",
      "text 1=1?p1", "orders() = 0", "light(0, 0) = true", "tick(9) = 9", "floor(0, 0, 0, 0) = true", "light(0, 1) = true", "call(1) = 0", "tick(2) = 11", "floored(0, 1, 3) ! 58", "about(0, 0) ! 2", "heal(0) ! false", "about(0, 5) ! 1", "about(0, 6) ! 4",
      "tick(1) = 12"};

  static void heal() {
    run("promise 19", HURT, "about(0, 0) ! 4", "about(0, 1) ! 1", "about(0, 2) ! -1", "about(0, 3) ! 0", "about(0, 4) ! -1", "about(0, 5) ! -1", "about(0, 6) ! 0", "about(0, 7) ! 100", "count(10) ! 1",
        "heal(-1) ! false", "heal(1) ! false", "heal(2) ! false", "heal(16) ! false", "heal(MIN) ! false", "heal(MAX) ! false", "recall(0) ! false", "tick(2) = 14", "about(0, 6) ! 0", "about(0, 0) ! 4",
        "heal(0) = true", "about(0, 0) ! 0", "about(0, 1) ! 1", "about(0, 3) ! 0", "count(10) ! 0", "heal(0) ! false", "recall(0) ! false");
    // No other state is healed.
    Run.of(due, "promise 19, not HURT", "street(0, 1, 5) = 0", "house(1, 2, 1, 1, -1) = 0", "floor(0, 0, 500, 0) = true", "crew(0, 0, false, 100, 1) = 0", "text 1=1?p1", "orders() = 0", "light(0, 0) = true",
        "heal(0) ! false", "call(1) = 0", "heal(0) ! false", "tick(5) = 5", "about(0, 0) ! 2", "heal(0) ! false", "floor(0, 0, 0, 0) = true", "tick(1) = 6", "about(0, 0) ! 3", "heal(0) ! false");
    // One that is HURT far from HOME is READY at HOME.
    run("promise 19, HOME", new String[0], "main(1000) = 0", "head(1, 0) = 0", "street(0, 1, 3) = 0", "house(1, 0, 2, 1, -1) = 0", "floor(0, 0, 500, 0) = true", "floor(0, 1, 500, 0) = true", "crew(0, 0, false, 100, 1) = 0", "text 1=1?p1", "orders() = 0",
        "light(0, 0) = true", "tick(9) = 9", "floor(0, 0, 0, 0) = true", "call(1) = 0", "tick(2) = 11", "light(0, 1) = true", "tick(3) = 14", "about(0, 0) ! 4", "about(0, 1) ! 0", "heal(0) = true", "about(0, 1) ! 0", "about(0, 0) ! 0");
  }

  // Crew 0 moves to corner 1, whose ladder goes to corner 2.
  static final String[] MOVED = {"street(0, 1, 4) = 0", "street(1, 2, 1) = 1", "crew(0, 0, true, 100, 1) = 0", "crew(0, 0, true, 100, 1) = 1", "crew(2, 1, false, 100, 1) = 2", "text w=1?l1m1", "orders() = 0", "call(2) = 0", "about(0, 0) ! 3", "about(0, 1) ! 1"};

  static void recall() {
    run("promise 20", MOVED, "recall(0) ! false", "recall(1) ! false", "recall(2) ! false", "recall(3) ! false", "recall(-1) ! false", "recall(MIN) ! false", "recall(MAX) ! false", "tick(3) = 3", "recall(0) ! false", "tick(1) = 4",
        "about(0, 0) ! 0", "about(0, 1) ! 1", "about(0, 2) ! -1", "about(0, 6) ! 2", "recall(0) = true", "about(0, 0) ! 3", "about(0, 1) ! 0", "about(0, 2) ! 8", "recall(0) ! false", "tick(3) = 7", "about(0, 0) ! 3", "tick(1) = 8",
        "about(0, 0) ! 0", "about(0, 1) ! 0", "recall(0) ! false");
    // At WORK and GOING it is not recalled.
    Run.of(due, "promise 20, not READY", "street(0, 1, 5) = 0", "house(1, 2, 1, 1, -1) = 0", "floor(0, 0, 500, 0) = true", "crew(0, 0, false, 100, 1) = 0", "text 1=1?p1", "orders() = 0", "light(0, 0) = true", "call(1) = 0", "recall(0) ! false",
        "tick(5) = 5", "about(0, 0) ! 2", "recall(0) ! false");
    // TIRED 12 (on its WAY 14 minutes, less) makes it slower home.
    Run.of(due, "promise 20, SLOW as it is", "street(0, 1, 14) = 0", "street(1, 2, 1) = 1", "crew(0, 0, true, 100, 1) = 0", "crew(0, 0, true, 100, 1) = 1", "crew(2, 1, false, 100, 1) = 2", "text w=1?l1m1", "orders() = 0", "call(2) = 0", "tick(14) = 14",
        "about(0, 6) ! 12", "about(0, 7) ! 104", "recall(0) = true", "about(0, 2) ! 29");
  }

  static void recallThatCannotCome() {
    run("promise 20, no way", MOVED, "tick(4) = 4", "closed(0, true) = true", "recall(0) = true", "about(0, 0) ! 0", "about(0, 1) ! 0", "about(0, 2) ! -1", "recall(0) ! false");
  }

  static void about() {
    Run.of(due, "promise 21", "street(0, 1, 10) = 0", "main(30) = 0", "head(1, 0) = 0", "house(1, 2, 1, 1, -1) = 0", "floor(0, 0, 500, 0) = true", "crew(0, 0, true, 100, 1) = 0", "gear(0, 100, 40, 0) = true", "text 1=1?p1", "orders() = 0", "light(0, 0) = true",
        "about(0, -1) ! throws NoSuchElementException", "about(0, 9) ! throws NoSuchElementException", "about(0, MIN) ! throws NoSuchElementException", "about(0, MAX) ! throws NoSuchElementException",
        "about(-1, 0) ! throws NoSuchElementException", "about(1, 0) ! throws NoSuchElementException", "about(MIN, 0) ! throws NoSuchElementException", "about(MAX, 8) ! throws NoSuchElementException", "about(-1, 9) ! throws NoSuchElementException",
        "about(0, 0) ! 0", "about(0, 1) ! 0", "about(0, 2) ! -1", "about(0, 3) ! -1", "about(0, 4) ! -1", "about(0, 5) ! -1", "about(0, 6) ! 0", "about(0, 7) ! 100", "about(0, 8) ! 0",
        "call(1) = 0", "about(0, 0) ! 1", "about(0, 1) ! 1", "about(0, 2) ! 10", "about(0, 3) ! 0", "about(0, 4) ! -1", "about(0, 5) ! -1", "tick(9) = 9", "about(0, 0) ! 1", "tick(1) = 10",
        "about(0, 0) ! 2", "about(0, 1) ! 1", "about(0, 2) ! -1", "about(0, 3) ! 0", "about(0, 4) ! 0", "about(0, 5) ! 0", "about(0, 6) ! 11", "about(0, 7) ! 103", "about(0, 8) ! 30");
  }

  static void aboutNone() {
    // Behind WORK: on its WAY home, and then READY.
    Run.of(due, "promise 21, behind WORK", "street(0, 1, 1) = 0", "main(30) = 0", "head(1, 0) = 0", "house(1, 2, 1, 1, -1) = 0", "floor(0, 0, 500, 0) = true", "crew(0, 0, false, 100, 1) = 0", "text 1=1?p1", "orders() = 0", "light(0, 0) = true", "call(1) = 0", "tick(1) = 1",
        "floor(0, 0, 1, 0) = true", "tick(1) = 2", "about(0, 0) ! 3", "about(0, 1) ! 0", "about(0, 2) ! 3", "about(0, 3) ! 0", "about(0, 4) ! -1", "about(0, 5) ! -1", "about(0, 8) ! 10", "tick(1) = 3", "about(0, 0) ! 0", "about(0, 2) ! -1", "about(0, 3) ! 0", "about(0, 8) ! 0");
    // The CALL it was sent to last: the second one.
    Run.of(due, "promise 21, the last CALL", "crew(3, 0, false, 100, 1) = 0", "text 1=1?c1", "orders() = 0", "call(0) = 0", "tick(1) = 1", "about(0, 3) ! 0", "call(0) = 1", "about(0, 3) ! 1", "tick(1) = 2", "about(0, 3) ! 1");
  }

  static void tired() {
    // 300 at most, 0 at least; SLOW is TIRED by 3, cut, more: 2, 3; 299, 300.
    Run.of(due, "TIRED", "street(0, 1, 20) = 0", "street(0, 2, 1) = 1", "house(1, 2, 1, 1, -1) = 0", "floor(0, 0, 500, 0) = true", "crew(0, 1, true, 150, 1) = 0", "crew(3, 0, true, 50, 1) = 1", "text w=1?p1", "orders() = 0", "light(0, 0) = true", "call(1) = 0",
        "tick(1) = 1", "about(0, 6) ! 2", "about(0, 7) ! 150", "about(1, 6) ! 0", "tick(1) = 2", "about(0, 6) ! 4", "about(0, 7) ! 151", "tick(88) = 90", "floor(0, 0, 500, 0) = true", "tick(59) = 149", "about(0, 6) ! 298", "about(0, 7) ! 249",
        "tick(1) = 150", "about(0, 6) ! 300", "about(0, 7) ! 250", "tick(1) = 151", "about(0, 6) ! 300", "floor(0, 0, 0, 0) = true", "tick(1) = 152", "about(0, 0) ! 0", "about(0, 6) ! 299", "about(0, 7) ! 249", "tick(297) = 449", "about(0, 6) ! 2", "about(0, 7) ! 150",
        "tick(1) = 450", "about(0, 6) ! 1", "tick(1) = 451", "about(0, 6) ! 0", "tick(1) = 452", "about(0, 6) ! 0", "about(1, 6) ! 0");
    // Without HORSES it is never slower. On a WAY it tires, too, up to 300.
    Run.of(due, "TIRED without HORSES", "house(1, 2, 1, 1, -1) = 0", "floor(0, 0, 500, 0) = true", "crew(0, 1, false, 150, 1) = 0", "text w=1?p1", "orders() = 0", "light(0, 0) = true", "call(1) = 0", "tick(90) = 90", "about(0, 6) ! 180", "about(0, 7) ! 150");
  }

  static void reach() {
    Run.of(due, "promise 22", "street(0, 1, 3) = 0", "house(1, 0, 6, 1, -1) = 0", "house(1, 0, 1, 1, -1) = 1", "crew(0, 0, false, 100, 1) = 0", "crew(1, 0, false, 100, 1) = 1", "crew(2, 0, false, 100, 1) = 2", "crew(3, 0, false, 100, 1) = 3",
        "gear(0, 3000, 10, 0) = true", "reach(0, 0) ! -1", "main(100) = 0", "reach(0, 0) ! -1", "head(0, 0) = 0", "reach(0, 0) ! 5", "reach(0, 1) ! 0", "reach(1, 0) ! -1", "reach(2, 0) ! -1", "reach(3, 0) ! -1",
        "reach(-1, 0) ! -1", "reach(4, 0) ! -1", "reach(MIN, 0) ! -1", "reach(MAX, 0) ! -1", "reach(0, -1) ! -1", "reach(0, 2) ! -1", "reach(0, MIN) ! -1", "reach(0, MAX) ! -1",
        "gear(0, 319, 10, 0) = true", "reach(0, 0) ! -1", "reach(0, 1) ! -1", "gear(0, 320, 10, 0) = true", "reach(0, 0) ! 0", "gear(0, 339, 10, 0) = true", "reach(0, 0) ! 0", "gear(0, 340, 10, 0) = true", "reach(0, 0) ! 1",
        "gear(0, 419, 10, 0) = true", "reach(0, 0) ! 4", "gear(0, 420, 10, 0) = true", "reach(0, 0) ! 5", "gear(0, 440, 10, 0) = true", "reach(0, 0) ! 5", "gear(1, 320, 10, 1) = true", "reach(1, 0) ! 0",
        "closed(0, true) = true", "reach(0, 0) ! 5");
    // HOSE 3,000 reaches 29 and not 30 of a hundred feet: 2,900 and 100 is floor 4.
    Run.of(due, "promise 22, 3,000", "street(0, 1, 20) = 0", "street(1, 2, 9) = 1", "street(2, 3, 1) = 2", "house(2, 0, 6, 1, -1) = 0", "house(3, 0, 6, 1, -1) = 1", "main(100) = 0", "head(0, 0) = 0", "crew(0, 0, false, 100, 1) = 0", "gear(0, 3000, 10, 0) = true",
        "reach(0, 0) ! 4", "reach(0, 1) ! -1");
  }

  // With least FEET, of several the lowest: which one it was is told by what its main gives.
  static void reachOfHeads() {
    String[] town = {"street(0, 1, 2) = 0", "street(2, 1, 1) = 1", "street(3, 1, 1) = 2", "main(10) = 0", "main(20) = 1", "main(30) = 2", "house(1, 2, 1, 1, -1) = 0", "floor(0, 0, 500, 0) = true", "crew(0, 1, false, 100, 1) = 0", "gear(0, 3000, 500, 0) = true",
        "text 1=1?p1", "orders() = 0"};
    run("promise 22, the nearest head", town, "head(0, 0) = 0", "head(3, 2) = 1", "light(0, 0) = true", "call(1) = 0", "tick(1) = 1", "about(0, 8) ! 30");
    run("promise 22, of several the lowest", town, "head(0, 0) = 0", "head(2, 1) = 1", "head(3, 2) = 2", "light(0, 0) = true", "call(1) = 0", "tick(1) = 1", "about(0, 8) ! 20");
    run("promise 22, the lowest head, not corner", town, "head(3, 2) = 0", "head(2, 1) = 1", "light(0, 0) = true", "call(1) = 0", "tick(1) = 1", "about(0, 8) ! 30", "head(1, 0) = 2", "tick(1) = 2", "about(0, 8) ! 10");
  }
}
