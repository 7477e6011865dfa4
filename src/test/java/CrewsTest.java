import java.util.NoSuchElementException;

/** Promises 15 to 22: mains, heads, crews, gear, heal, recall, about, reach. */
public final class CrewsTest {
  static final Due due = new Due();

  public static void main(String[] args) {
    mains();
    heads();
    crew();
    gear();
    heal();
    recall();
    recallWithoutAWay();
    about();
    aboutThrows();
    reach();
    reachByHeads();
    due.over();
  }

  static void mains() {
    due.part("promise 15");
    CityBrigade x = new CityBrigade();
    due.none("main(9)", x.main(9));
    due.none("main(2001)", x.main(2001));
    due.none("main(-1)", x.main(-1));
    due.is("main(10)", x.main(10), 0);
    due.is("main(2000)", x.main(2000), 1);
    for (int i = 2; i < 6; i++) due.is("main " + i, x.main(100), i);
    due.none("the seventh", x.main(100));
    due.is("count(14)", x.count(14), 6);
  }

  static void heads() {
    due.part("promise 16");
    CityBrigade x = new CityBrigade();
    due.none("without a main", x.head(0, 0));
    x.main(100);
    due.none("head(-1, 0)", x.head(-1, 0));
    due.none("head(20, 0)", x.head(20, 0));
    due.none("head(0, -1)", x.head(0, -1));
    due.none("head(0, 1)", x.head(0, 1));
    for (int i = 0; i < 20; i++) due.is("head " + i, x.head(i, 0), i);
    due.none("the twenty-first", x.head(0, 0));
    due.is("count(15)", x.count(15), 20);
  }

  static void crew() {
    due.part("promise 17");
    CityBrigade x = new CityBrigade();
    due.none("sort -1", x.crew(-1, 0, false, 100, 1));
    due.none("sort 4", x.crew(4, 0, false, 100, 1));
    due.none("home -1", x.crew(0, -1, false, 100, 1));
    due.none("home 20", x.crew(0, 20, false, 100, 1));
    due.none("slow 49", x.crew(0, 0, false, 49, 1));
    due.none("slow 151", x.crew(0, 0, false, 151, 1));
    due.none("men 0", x.crew(0, 0, false, 100, 0));
    due.none("men 10", x.crew(0, 0, false, 100, 10));
    due.is("count(3)", x.count(3), 0);
    due.is("slow 50, men 1", x.crew(0, 0, false, 50, 1), 0);
    due.is("slow 150, men 9", x.crew(3, 19, true, 150, 9), 1);
    int[] fresh = {0, 19, -1, -1, -1, -1, 0, 150, 0};
    for (int what = 0; what < 9; what++) due.is("about(1, " + what + ")", x.about(1, what), fresh[what]);
    for (int i = 2; i < 16; i++) due.is("crew " + i, x.crew(i % 4, i, false, 100, 2), i);
    due.none("the seventeenth", x.crew(0, 0, false, 100, 2));
    due.is("count(3)", x.count(3), 16);
  }

  static void gear() {
    due.part("promise 18");
    CityBrigade x = new CityBrigade();
    due.no("without a crew", x.gear(0, 100, 10, 0));
    for (int sort = 0; sort < 4; sort++) x.crew(sort, 0, false, 100, 1);
    due.no("crew -1", x.gear(-1, 100, 10, 0));
    due.no("crew 4", x.gear(4, 100, 10, 0));
    int[][] good = {{0, 100, 10, 0}, {0, 3000, 500, 0}, {1, 100, 10, 1}, {1, 3000, 500, 30}, {2, 1, 0, 0}, {2, 6, 0, 0}, {3, 0, 0, 0}};
    int[][] bad = {{0, 99, 10, 0}, {0, 3001, 10, 0}, {0, 100, 9, 0}, {0, 100, 501, 0}, {0, 100, 10, 1}, {0, 100, 10, -1},
        {1, 99, 10, 1}, {1, 3001, 10, 1}, {1, 100, 9, 1}, {1, 100, 501, 1}, {1, 100, 10, 0}, {1, 100, 10, 31},
        {2, 0, 0, 0}, {2, 7, 0, 0}, {2, 1, 1, 0}, {2, 1, 0, 1}, {2, 1, -1, 0},
        {3, 1, 0, 0}, {3, 0, 1, 0}, {3, 0, 0, 1}, {3, -1, 0, 0}};
    for (int[] g : good) due.yes("gear(" + g[0] + ", " + g[1] + ", " + g[2] + ", " + g[3] + ")", x.gear(g[0], g[1], g[2], g[3]));
    for (int[] g : bad) due.no("gear(" + g[0] + ", " + g[1] + ", " + g[2] + ", " + g[3] + ")", x.gear(g[0], g[1], g[2], g[3]));
    gearAtFirst();
    gearAtWork();
  }

  // A pump with 10 gallons at once, a steamer with 10 a minute later, a ladder up to floor 0.
  static void gearAtFirst() {
    CityBrigade x = new CityBrigade();
    x.main(1000);
    x.head(0, 0);
    x.house(0, 2, 2, 1, -1);
    x.floor(0, 0, 500, 6);
    x.floor(0, 1, 500, 6);
    for (int sort = 0; sort < 3; sort++) x.crew(sort, 0, false, 100, 1);
    due.is("HOSE 100 of a pump", x.reach(0, 0), 1);
    due.is("HOSE 100 of a steamer", x.reach(1, 0), 1);
    Due.orders(x, "1=1?p1s1l1");
    x.light(0, 0);
    x.call(0);
    x.tick(1);
    due.is("GALLONS 10 of a pump", x.about(0, 8), 10);
    due.is("MINUTES 1 of a steamer", x.about(1, 8), 0);
    due.is("HEIGHT 1 of a ladder", x.floored(0, 0, 2), 4);
    due.is("HEIGHT 1 of a ladder", x.floored(0, 1, 2), 6);
    x.tick(1);
    due.is("GALLONS 10 of a steamer", x.about(1, 8), 10);
  }

  static void gearAtWork() {
    CityBrigade x = new CityBrigade();
    x.house(0, 2, 1, 1, -1);
    x.floor(0, 0, 500, 0);
    x.crew(0, 0, false, 100, 1);
    Due.orders(x, "1=1?p1");
    x.light(0, 0);
    x.call(0);
    due.yes("while it is going", x.gear(0, 200, 20, 0));
    x.tick(1);
    due.is("at work", x.about(0, 0), 2);
    due.no("at work", x.gear(0, 300, 30, 0));
  }

  /** A tower of wood whose floor 1 burns with a crew on it, so that it falls with the crew. */
  static CityBrigade hurting() {
    CityBrigade x = new CityBrigade();
    x.main(1000);
    x.head(0, 0);
    x.house(0, 0, 2, 1, -1);
    x.floor(0, 1, 500, 0);
    x.crew(0, 3, true, 100, 1);
    x.crew(0, 0, true, 100, 1);
    Due.orders(x, "1=1?p1");
    x.light(0, 1);
    x.call(0);
    return x;
  }

  static void heal() {
    due.part("promise 19");
    CityBrigade x = hurting();
    due.no("heal(-1)", x.heal(-1));
    due.no("heal(2)", x.heal(2));
    due.no("READY", x.heal(0));
    due.no("GOING", x.heal(1));
    x.tick(1);
    due.no("at WORK", x.heal(1));
    // Ten gallons cool by 2: 400, 448, 496, 544, .. : 2 2 2 3 3 3 3 3 4 4 4 4 4 5 5 5 .. is 60 or more at minute 17.
    int minutes = 1;
    while (minutes < 40 && x.about(1, 0) == 2) { x.tick(1); minutes++; }
    due.is("HURT", x.about(1, 0), 4);
    due.is("the floor has fallen", x.floored(0, 1, 1), 1);
    due.is("hurt now", x.count(10), 1);
    due.is("its POST", x.about(1, 1), 0);
    due.is("its MINUTE", x.about(1, 2), -1);
    due.is("its CALL", x.about(1, 3), 0);
    due.is("its HOUSE", x.about(1, 4), -1);
    due.is("its floor", x.about(1, 5), -1);
    due.is("TIRED", x.about(1, 6), 0);
    due.is("crews at work", x.housed(0, 5), 0);
    due.is("the call stays open", x.called(0, 2), 0);
    due.no("recall of a hurt one", x.recall(1));
    x.tick(3);
    due.is("still HURT", x.about(1, 0), 4);
    due.yes("heal(1)", x.heal(1));
    due.is("READY", x.about(1, 0), 0);
    due.is("at HOME", x.about(1, 1), 0);
    due.is("hurt now", x.count(10), 0);
    due.no("heal(1) again", x.heal(1));
  }

  static void recall() {
    due.part("promise 20");
    CityBrigade x = new CityBrigade();
    due.no("recall(0) without a crew", x.recall(0));
    x.street(0, 1, 4);
    x.crew(0, 0, true, 100, 1);
    x.crew(0, 0, true, 100, 1);
    x.crew(2, 1, true, 100, 1);
    due.no("recall(-1)", x.recall(-1));
    due.no("recall(3)", x.recall(3));
    due.no("READY at HOME", x.recall(0));
    Due.orders(x, "1=1?l1m1");
    x.call(1);
    due.is("one moves to corner 1", x.about(0, 0), 3);
    due.no("on its WAY", x.recall(0));
    x.tick(4);
    due.is("READY there", x.about(0, 0), 0);
    due.is("POST", x.about(0, 1), 1);
    due.is("no MINUTE", x.about(0, 2), -1);
    due.is("TIRED: three on the way, one less", x.about(0, 6), 2);
    due.yes("recall(0)", x.recall(0));
    due.is("on its WAY", x.about(0, 0), 3);
    due.is("to HOME", x.about(0, 1), 0);
    due.is("at minute 8", x.about(0, 2), 8);
    due.no("recall(0) again", x.recall(0));
    x.tick(4);
    due.is("READY", x.about(0, 0), 0);
    due.no("at HOME", x.recall(0));
  }

  static void recallWithoutAWay() {
    due.part("promise 20, no way");
    CityBrigade x = new CityBrigade();
    x.street(0, 1, 4);
    x.crew(0, 0, false, 100, 1);
    x.crew(0, 0, false, 100, 1);
    x.crew(2, 1, false, 100, 1);
    Due.orders(x, "1=1?l1m1");
    x.call(1);
    x.tick(5);
    x.closed(0, true);
    due.yes("recall(0)", x.recall(0));
    due.is("READY at once", x.about(0, 0), 0);
    due.is("at HOME", x.about(0, 1), 0);
    due.is("no MINUTE", x.about(0, 2), -1);
  }

  static void about() {
    due.part("promise 21");
    CityBrigade x = new CityBrigade();
    x.street(0, 1, 10);
    x.main(30);
    x.head(1, 0);
    x.house(1, 2, 1, 1, -1);
    x.floor(0, 0, 500, 0);
    x.crew(0, 0, true, 90, 1);
    x.gear(0, 100, 40, 0);
    Due.orders(x, "1=1?p1");
    x.light(0, 0);
    x.call(1);
    int[] going = {1, 1, 9, 0, -1, -1, 0, 90, 0};
    for (int what = 0; what < 9; what++) due.is("going: about(0, " + what + ")", x.about(0, what), going[what]);
    x.tick(8);
    int[] later = {1, 1, 9, 0, -1, -1, 8, 92, 0};
    for (int what = 0; what < 9; what++) due.is("later: about(0, " + what + ")", x.about(0, what), later[what]);
    x.tick(1);
    int[] work = {2, 1, -1, 0, 0, 0, 10, 93, 30};
    for (int what = 0; what < 9; what++) due.is("at work: about(0, " + what + ")", x.about(0, what), work[what]);
    due.is("crews at work", x.housed(0, 5), 1);
    x.floor(0, 0, 0, 0);
    x.tick(1);
    // SLOW 93: ten minutes back, cut up.
    int[] way = {3, 0, 20, 0, -1, -1, 11, 93, 0};
    for (int what = 0; what < 9; what++) due.is("on its way: about(0, " + what + ")", x.about(0, what), way[what]);
    x.tick(10);
    int[] home = {0, 0, -1, 0, -1, -1, 19, 96, 0};
    for (int what = 0; what < 9; what++) due.is("home: about(0, " + what + ")", x.about(0, what), home[what]);
    x.tick(30);
    due.is("rested", x.about(0, 6), 0);
    due.is("as fast as at best", x.about(0, 7), 90);
  }

  static void aboutThrows() {
    due.part("promise 21, throws");
    CityBrigade x = new CityBrigade();
    x.crew(0, 0, true, 90, 1);
    int[][] bad = {{-1, 0}, {1, 0}, {16, 0}, {0, -1}, {0, 9}, {Integer.MIN_VALUE, 0}, {0, Integer.MAX_VALUE}};
    for (int[] b : bad) {
      boolean thrown = false;
      try { x.about(b[0], b[1]); } catch (NoSuchElementException e) { thrown = true; }
      due.yes("about(" + b[0] + ", " + b[1] + ") throws", thrown);
    }
  }

  static void reach() {
    due.part("promise 22");
    CityBrigade x = new CityBrigade();
    x.street(0, 1, 3);
    x.house(1, 0, 6, 1, -1);
    x.house(1, 0, 2, 1, -1);
    for (int sort = 0; sort < 4; sort++) x.crew(sort, 0, false, 100, 1);
    x.gear(0, 320, 10, 0);
    due.none("without a head", x.reach(0, 0));
    x.main(100);
    x.head(0, 0);
    due.is("300 feet, and 20 for floor 0", x.reach(0, 0), 0);
    x.gear(0, 319, 10, 0);
    due.none("not so far", x.reach(0, 0));
    x.gear(0, 359, 10, 0);
    due.is("359", x.reach(0, 0), 1);
    x.gear(0, 360, 10, 0);
    due.is("360", x.reach(0, 0), 2);
    x.gear(0, 3000, 10, 0);
    due.is("no higher than the house", x.reach(0, 0), 5);
    due.is("no higher than the house", x.reach(0, 1), 1);
    due.none("a steamer with 100 feet", x.reach(1, 0));
    x.gear(1, 340, 10, 1);
    due.is("a steamer", x.reach(1, 0), 1);
    due.none("a ladder", x.reach(2, 0));
    due.none("a chief", x.reach(3, 0));
    due.none("crew -1", x.reach(-1, 0));
    due.none("crew 4", x.reach(4, 0));
    due.none("house -1", x.reach(0, -1));
    due.none("house 2", x.reach(0, 2));
    x.closed(0, true);
    due.is("closed streets, too", x.reach(1, 0), 1);
  }

  // The nearest head; of several the lowest: its main tells which one it was.
  static void reachByHeads() {
    due.part("promise 22, heads");
    CityBrigade x = new CityBrigade();
    x.street(0, 1, 2);
    x.street(2, 1, 1);
    x.street(3, 1, 1);
    for (int i = 0; i < 3; i++) x.main(10 + 10 * i);
    x.head(9, 0);
    x.head(0, 0);
    x.house(1, 2, 6, 1, -1);
    x.floor(0, 0, 500, 0);
    x.crew(0, 1, false, 100, 1);
    x.gear(0, 240, 500, 0);
    due.is("over corner 0", x.reach(0, 0), 1);
    x.head(2, 1);
    x.head(3, 2);
    due.is("over corner 2", x.reach(0, 0), 5);
    Due.orders(x, "1=1?p1");
    x.light(0, 0);
    x.call(1);
    x.tick(1);
    due.is("water of main 1", x.about(0, 8), 20);
  }
}
