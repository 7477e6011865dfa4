/** Promises 23 to 25, 31 and 32: calls, their answering, falses, asks, why. */
public final class CallsTest {
  static final Due due = new Due();

  public static void main(String[] args) {
    call();
    words();
    sixty();
    nearestFirst();
    sorts();
    moves();
    movesNotTo();
    movesToCornerZero();
    movesOfLonelyOnes();
    hours();
    called();
    falses();
    asks();
    letters();
    why();
    latestOrders();
    due.over();
  }

  static void call() {
    due.part("promise 23");
    CityBrigade x = new CityBrigade();
    due.none("call(-1)", x.call(-1));
    due.none("call(20)", x.call(20));
    due.is("count(4)", x.count(4), 0);
    due.is("without orders", x.call(19), 0);
    due.is("another corner", x.call(0), 1);
    due.is("the open one", x.call(19), 0);
    due.is("nobody sent", x.called(0, 5), 0);
    due.is("nobody short", x.called(0, 6), 0);
    due.is("count(4)", x.count(4), 2);
    due.is("count(5)", x.count(5), 2);
  }

  static void words() {
    due.part("promise 23, words");
    CityBrigade x = new CityBrigade();
    for (int i = 0; i < 6; i++) x.crew(0, 0, false, 100, 1);
    Due.orders(x, "w=1?p1;w=2?p2;w=3?p3");
    due.is("first", x.call(0), 0);
    due.is("sent", x.called(0, 5), 1);
    due.is("second", x.call(0), 0);
    due.is("sent", x.called(0, 5), 3);
    due.is("third", x.call(0), 0);
    due.is("sent", x.called(0, 5), 6);
    due.is("WORD", x.called(0, 1), 3);
    due.is("fourth", x.call(0), 0);
    due.is("WORD", x.called(0, 1), 3);
    due.is("times", x.called(0, 7), 4);
    due.is("nothing but counts", x.called(0, 6), 0);
  }

  static void sixty() {
    due.part("promise 23, sixty");
    CityBrigade x = new CityBrigade();
    x.crew(3, 0, false, 100, 1);
    Due.orders(x, "1=1?c1");
    for (int i = 0; i < 40; i++) {
      due.is("call " + i, x.call(0), i);
      x.tick(1);
    }
    due.is("all false", x.count(6), 40);
    for (int c = 0; c < 20; c++) due.is("call at " + c, x.call(c), 40 + c);
    due.is("an open one", x.call(7), 47);
    due.is("its WORD", x.called(47, 1), 2);
    x.tick(1);
    due.is("corner 0 is over", x.called(40, 2), 2);
    due.none("the sixty-first", x.call(0));
    due.is("count(4)", x.count(4), 60);
    due.is("still an open one", x.call(7), 47);
    // All that goes through the calls, with sixty of them: nobody lacked but at the corners 1 to 19, two words at 7.
    due.is("SHORT in all", x.count(7), 19 + 2);
    x.house(7, 2, 1, 1, -1);
    x.floor(0, 0, 5, 0);
    x.light(0, 0);
    due.is("a minute with sixty calls", x.tick(1), 42);
    due.is("open ones", x.count(5), 19);
    due.is("falses(0, 0)", x.falses(0, 0), 100);
  }

  static void nearestFirst() {
    due.part("promise 23, the nearest");
    CityBrigade x = new CityBrigade();
    x.street(0, 1, 8);
    x.street(2, 1, 5);
    x.street(3, 1, 6);
    x.crew(0, 0, false, 100, 1);
    x.crew(0, 4, false, 100, 1);
    x.crew(0, 2, false, 150, 1);
    x.crew(0, 3, false, 120, 1);
    x.crew(0, 3, false, 120, 1);
    x.crew(0, 3, false, 140, 1);
    // Arrivals: 8, none, 8 (7.5 up), 8 (7.2 up), 8, 9 (8.4 up).
    Due.orders(x, "w=1?p3;w=2?p3");
    x.call(1);
    int[] first = {1, 0, 1, 1, 0, 0};
    for (int i = 0; i < 6; i++) due.is("crew " + i, x.about(i, 0), first[i]);
    for (int i : new int[] {0, 2, 3}) due.is("its minute", x.about(i, 2), 8);
    due.is("SHORT", x.called(0, 6), 0);
    x.call(1);
    due.is("crew 4", x.about(4, 0), 1);
    due.is("crew 5", x.about(5, 2), 9);
    due.is("crew 1 can't come", x.about(1, 0), 0);
    due.is("SHORT", x.called(0, 6), 1);
    due.is("sent", x.called(0, 5), 5);
    due.is("SHORT in all", x.count(7), 1);
  }

  static void sorts() {
    due.part("promise 23, sorts");
    CityBrigade x = new CityBrigade();
    for (int i = 0; i < 8; i++) x.crew(i % 4, 0, false, 100, 1);
    Due.orders(x, "1=1?p1s2l3c1;w=1?p0c9");
    x.call(0);
    int[] states = {1, 1, 1, 1, 0, 1, 1, 1};
    for (int i = 0; i < 8; i++) due.is("crew " + i, x.about(i, 0), states[i]);
    // One ladder and, of nine chiefs at most, seven lack.
    due.is("SHORT", x.called(0, 6), 8);
    due.is("sent", x.called(0, 5), 7);
    x.call(5);
    due.is("nobody can come there", x.called(1, 5), 0);
    due.is("SHORT of the second", x.called(1, 6), 1 + 2 + 3 + 9);
    due.is("SHORT in all", x.count(7), 8 + 15);
  }

  static void moves() {
    due.part("promise 23, moves");
    CityBrigade x = new CityBrigade();
    x.street(0, 1, 2);
    x.street(1, 2, 2);
    x.street(2, 3, 2);
    x.crew(0, 1, false, 100, 1);
    x.crew(0, 2, false, 100, 1);
    x.crew(1, 3, false, 100, 1);
    x.crew(2, 3, false, 100, 1);
    x.crew(3, 3, false, 100, 1);
    // Both pumps go; corners 1 and 2 are bare. Crews of corner 3 move as long as two are there.
    Due.orders(x, "1=1?p2m9");
    x.call(0);
    due.is("pump 0", x.about(0, 2), 2);
    due.is("pump 1", x.about(1, 2), 4);
    due.is("the steamer moves", x.about(2, 0), 3);
    due.is("to corner 1", x.about(2, 1), 1);
    due.is("by minute 4", x.about(2, 2), 4);
    due.is("it was not sent", x.about(2, 3), -1);
    due.is("the ladder moves", x.about(3, 0), 3);
    due.is("to corner 2", x.about(3, 1), 2);
    due.is("by minute 2", x.about(3, 2), 2);
    due.is("the chief stays", x.about(4, 0), 0);
    due.is("sent", x.called(0, 5), 2);
    due.is("no move is short", x.called(0, 6), 0);
    x.tick(4);
    due.is("the steamer is READY", x.about(2, 0), 0);
    due.is("at corner 1", x.about(2, 1), 1);
    // A second word: no crew shares its post with another one now.
    x.call(0);
    due.is("no more", x.about(4, 0), 0);
  }

  static void movesNotTo() {
    due.part("promise 23, moves by number and way");
    CityBrigade x = new CityBrigade();
    x.street(0, 5, 3);
    x.street(0, 6, 3);
    x.crew(2, 5, false, 100, 1);
    x.crew(2, 4, false, 100, 1);
    x.crew(0, 0, false, 100, 1);
    x.crew(0, 0, false, 50, 1);
    x.crew(0, 0, false, 50, 1);
    Due.orders(x, "1=1?l1m1");
    x.call(5);
    // Corner 5 is bare; the soonest one, of two alike the lower, goes.
    due.is("crew 2", x.about(2, 0), 0);
    due.is("crew 3", x.about(3, 0), 3);
    due.is("by minute 2", x.about(3, 2), 2);
    due.is("crew 4", x.about(4, 0), 0);
    x.call(5);
    // To corner 5 one is on its way, corner 4 has its ladder: it can't come, and is one short.
    due.is("crew 4 stays", x.about(4, 0), 0);
    due.is("SHORT", x.called(0, 6), 1);
    x.call(4);
    // Now corner 4 is bare, the lowest one, and nobody can come there: no move at all.
    due.is("the ladder of 4", x.about(1, 0), 1);
    due.is("crew 2 stays", x.about(2, 0), 0);
    due.is("crew 4 stays", x.about(4, 0), 0);
  }

  static void called() {
    due.part("promise 24");
    CityBrigade x = new CityBrigade();
    due.none("called(0, 0)", x.called(0, 0));
    x.street(0, 1, 3);
    x.crew(3, 0, false, 100, 1);
    Due.orders(x, "1=1?c2");
    x.tick(10);
    x.call(1);
    int[] open = {1, 1, 0, 10, -1, 1, 1, 1};
    for (int what = 0; what < 8; what++) due.is("called(0, " + what + ")", x.called(0, what), open[what]);
    due.none("called(0, 8)", x.called(0, 8));
    due.none("called(0, -1)", x.called(0, -1));
    due.none("called(1, 0)", x.called(1, 0));
    due.none("called(-1, 0)", x.called(-1, 0));
    x.tick(2);
    x.call(1);
    x.tick(5);
    int[] closed = {1, 2, 2, 10, 13, 1, 3, 2};
    for (int what = 0; what < 8; what++) due.is("closed: called(0, " + what + ")", x.called(0, what), closed[what]);
    due.is("a new one", x.call(1), 1);
    due.is("its WORD", x.called(1, 1), 1);
  }

  static void falses() {
    due.part("promise 25");
    CityBrigade x = new CityBrigade();
    due.none("falses(-1, 0)", x.falses(-1, 0));
    due.none("falses(20, 0)", x.falses(20, 0));
    due.none("falses(0, -1)", x.falses(0, -1));
    due.none("falses(0, 4)", x.falses(0, 4));
    due.is("without any", x.falses(0, 0), 0);
    x.crew(3, 0, false, 100, 1);
    x.house(0, 2, 1, 1, -1);
    Due.orders(x, "1=1?c1");
    x.call(0);
    due.is("an open one", x.falses(0, 0), 0);
    x.tick(1);
    due.is("one false", x.falses(0, 0), 100);
    x.floor(0, 0, 1, 0);
    x.light(0, 0);
    x.call(0);
    x.tick(1);
    due.is("one was out", x.called(1, 2), 1);
    due.is("one of two", x.falses(0, 0), 50);
    x.floor(0, 0, 1, 0);
    x.light(0, 0);
    x.call(0);
    x.tick(1);
    due.is("one of three, cut", x.falses(0, 0), 33);
    due.is("another part", x.falses(0, 1), 0);
    due.is("another corner", x.falses(1, 0), 0);
    x.tick(300);
    x.tick(56);
    due.is("NOW", x.count(0), 359);
    x.call(0);
    x.tick(1);
    due.is("its first WORD came in part 0", x.falses(0, 0), 50);
    due.is("not in part 1", x.falses(0, 1), 0);
    x.call(0);
    x.tick(1);
    due.is("that one did", x.falses(0, 1), 100);
    Due.orders(x, "a=100?c1;a=50?c2");
    due.is("letter a, by the part of NOW", x.asks(0, 1, 3), 1);
    due.is("letter a of another corner", x.asks(1, 1, 3), 0);
  }

  static void asks() {
    due.part("promise 31");
    CityBrigade x = new CityBrigade();
    due.is("without orders", x.asks(0, 1, 0), 0);
    Due.orders(x, "w=1?p5p3;w<3?p1s2;w=3?p5p5l9l1;1=1?c3m4");
    int[][] due3 = {{9, 2, 0, 3, 4}, {1, 2, 0, 3, 4}, {9, 0, 9, 3, 4}};
    for (int w = 1; w <= 3; w++) for (int s = 0; s < 5; s++) due.is("asks(0, " + w + ", " + s + ")", x.asks(0, w, s), due3[w - 1][s]);
    due.none("corner -1", x.asks(-1, 1, 0));
    due.none("corner 20", x.asks(20, 1, 0));
    due.none("word 0", x.asks(0, 0, 0));
    due.none("word 4", x.asks(0, 4, 0));
    due.none("sort -1", x.asks(0, 1, -1));
    due.none("sort 5", x.asks(0, 1, 5));
    due.is("nobody called", x.count(4), 0);
    for (int i = 0; i < 3; i++) x.call(0);
    due.is("of a call with three words, too", x.asks(0, 1, 1), 2);
  }

  static void letters() {
    due.part("letters of orders");
    CityBrigade x = new CityBrigade();
    x.house(3, 0, 2, 1, -1);
    x.house(3, 0, 5, 1, -1);
    x.house(3, 0, 1, 1, -1);
    int[] crews = {0, 0, 0, 1, 1, 2, 2, 2, 2, 3};
    for (int s : crews) x.crew(s, 9, false, 100, 1);
    Due.orders(x, "w=2&f=5&k=3&a=0&p=3&s=2&l=4&c=1&o=0&h=0?p1;1=2?p1");
    due.is("all letters", x.asks(3, 2, 0), 1);
    due.is("all letters: which clause", x.why(3, 2), 1);
    Due.orders(x, "f=0&k=0?p1");
    due.is("a corner without houses", x.asks(4, 1, 0), 1);
    x.tick(300);
    x.tick(120);
    Due.orders(x, "h=7?p1;h*60=420?p1");
    due.is("the hour", x.asks(0, 1, 0), 2);
    for (int i = 0; i < 4; i++) x.tick(300);
    Due.orders(x, "h=3?p1");
    due.is("the hour of the next day", x.asks(0, 1, 0), 1);
    Due.orders(x, "1=2?p1");
    x.call(3);
    x.call(4);
    Due.orders(x, "o=1?p1;o=2?p2");
    due.is("other calls than that of corner 3", x.asks(3, 1, 0), 1);
    due.is("other calls, of corner 5", x.asks(5, 1, 0), 2);
    Due.orders(x, "o=2&p=3?p2l1");
    x.call(5);
    due.is("the call itself is none of the others", x.called(2, 6), 3);
    Due.orders(x, "o=2&p=3?p2l1");
    x.call(9);
    due.is("three others", x.called(3, 5), 0);
    Due.orders(x, "o=3&p=3?p2l1");
    x.call(9);
    due.is("two pumps and a ladder go", x.called(3, 5), 3);
    Due.orders(x, "p=1&l=3&s=2&c=1?p1");
    due.is("READY ones alone", x.asks(9, 3, 0), 1);
  }

  static void why() {
    due.part("promise 32");
    CityBrigade x = new CityBrigade();
    due.is("without orders", x.why(0, 1), 0);
    Due.orders(x, "w=1?p1;w=2?p1;w<3?p1;k=0?m1");
    due.is("why(0, 1)", x.why(0, 1), 0b1101);
    due.is("why(0, 2)", x.why(0, 2), 0b1110);
    due.is("why(0, 3)", x.why(0, 3), 0b1000);
    due.none("corner -1", x.why(-1, 1));
    due.none("corner 20", x.why(20, 1));
    due.none("word 0", x.why(0, 0));
    due.none("word 4", x.why(0, 4));
    StringBuilder many = new StringBuilder("1=1?p0");
    for (int i = 1; i < 28; i++) many.append(";1=1?p0");
    due.is("28 clauses", Due.orders(x, many.toString()), 1);
    due.is("why of 28", x.why(0, 1), (1 << 28) - 1);
  }

  static void latestOrders() {
    due.part("the latest orders");
    CityBrigade x = new CityBrigade();
    Due.orders(x, "1=1?p1");
    Due.orders(x, "1=1?p2");
    due.is("the second", x.asks(0, 1, 0), 2);
    Due.orders(x, "1=1?p");
    due.is("a fault changes nothing", x.asks(0, 1, 0), 2);
    x.end(0);
    Due.feed(x, "1=1?p3");
    due.is("nor does the tape", x.asks(0, 1, 0), 2);
  }

  static void movesToCornerZero() {
    due.part("promise 23, moves to corner 0");
    CityBrigade x = new CityBrigade();
    x.street(0, 1, 2);
    x.street(1, 2, 2);
    x.crew(0, 0, false, 100, 1);
    x.crew(0, 2, false, 100, 1);
    x.crew(2, 2, false, 100, 1);
    Due.orders(x, "1=1?p1m1");
    x.call(1);
    due.is("the first pump goes", x.about(0, 0), 1);
    due.is("the second pump moves", x.about(1, 0), 3);
    due.is("to corner 0", x.about(1, 1), 0);
  }

  static void movesOfLonelyOnes() {
    due.part("promise 23, no crew to move");
    CityBrigade x = new CityBrigade();
    for (int i = 0; i < 4; i++) x.street(i, i + 1, 2);
    x.crew(2, 1, false, 100, 1);
    x.crew(0, 2, false, 100, 1);
    x.crew(0, 3, false, 100, 1);
    x.crew(1, 1, false, 100, 1);
    Due.orders(x, "1=1?s1l1m3");
    x.call(0);
    due.is("the ladder goes", x.about(0, 0), 1);
    due.is("pump 1 is alone at its post", x.about(1, 0), 0);
    due.is("pump 2 is alone at its post", x.about(2, 0), 0);
    // One that only a crew on its way, or going, shares a corner with does not move either.
    CityBrigade y = new CityBrigade();
    for (int i = 0; i < 4; i++) y.street(i, i + 1, 2);
    y.crew(2, 1, false, 100, 1);
    y.crew(0, 0, false, 100, 1);
    Due.orders(y, "1=1?l1m3");
    y.call(0);
    due.is("the ladder goes to corner 0", y.about(0, 1), 0);
    due.is("the pump there stays", y.about(1, 0), 0);
  }

  static void hours() {
    due.part("the hour");
    CityBrigade x = new CityBrigade();
    Due.orders(x, "h=6?p1;h=7?p2;h=23?p3;h=0?p4");
    due.is("minute 0", x.asks(0, 1, 0), 4);
    x.tick(300);
    x.tick(119);
    due.is("minute 419", x.asks(0, 1, 0), 1);
    x.tick(1);
    due.is("minute 420", x.asks(0, 1, 0), 2);
    for (int i = 0; i < 3; i++) x.tick(300);
    x.tick(119);
    due.is("minute 1,439", x.asks(0, 1, 0), 3);
    x.tick(1);
    due.is("minute 1,440", x.asks(0, 1, 0), 4);
  }
}
