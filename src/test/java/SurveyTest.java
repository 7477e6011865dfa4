/** Promises 42 to 45: rounds of looks, plans of stations. */
public final class SurveyTest {
  static final Due due = new Due();

  public static void main(String[] args) {
    refused();
    oneHouse();
    worth();
    fewestMinutes();
    lowerHouse();
    eightLowest();
    wholeRound();
    zeroWorth();
    roundEdges();
    plan();
    planTwoNear();
    planLower();
    planWords();
    due.over();
  }

  static void refused() {
    due.part("promises 42, 43, refused");
    CityBrigade x = new CityBrigade();
    due.none("round(-1, 10, 0)", x.round(-1, 10, 0));
    due.none("round(20, 10, 0)", x.round(20, 10, 0));
    due.none("round(0, -1, 0)", x.round(0, -1, 0));
    due.none("round(0, 501, 0)", x.round(0, 501, 0));
    due.none("round(0, 10, -1)", x.round(0, 10, -1));
    due.none("round(0, 10, 3)", x.round(0, 10, 3));
    due.none("rounded(-1, 10, 0)", x.rounded(-1, 10, 0));
    due.none("rounded(20, 10, 0)", x.rounded(20, 10, 0));
    due.none("rounded(0, -1, 0)", x.rounded(0, -1, 0));
    due.none("rounded(0, 501, 0)", x.rounded(0, 501, 0));
    for (int what = 0; what < 3; what++) due.is("no house: round(0, 500, " + what + ")", x.round(0, 500, what), 0);
    due.none("no house: rounded(0, 500, 0)", x.rounded(0, 500, 0));
  }

  static void oneHouse() {
    due.part("promise 42, one house");
    CityBrigade x = new CityBrigade();
    x.street(0, 1, 7);
    x.house(1, 0, 1, 1, -1);
    due.is("24 minutes are enough", x.round(0, 24, 0), 30);
    due.is("minutes", x.round(0, 24, 1), 24);
    due.is("houses", x.round(0, 24, 2), 1);
    due.is("the house", x.rounded(0, 24, 0), 0);
    due.none("no second one", x.rounded(0, 24, 1));
    due.none("rounded(.., -1)", x.rounded(0, 24, -1));
    due.is("23 are not", x.round(0, 23, 0), 0);
    due.none("23 are not", x.rounded(0, 23, 0));
    due.is("from its own corner", x.round(1, 10, 1), 10);
    due.is("from a corner without a way", x.round(2, 500, 0), 0);
    x.closed(0, true);
    due.is("closed or not", x.round(0, 24, 0), 30);
  }

  static void worth() {
    due.part("promise 42, worth");
    CityBrigade x = new CityBrigade();
    for (int i = 0; i < 3; i++) x.house(0, 0, 1 + i, 1, -1);
    Due.act(x, "s>1?1;s>2?2;s>2?3", 1);
    // 30, 40, 60.
    due.is("one of them", x.round(0, 19, 0), 60);
    due.is("which", x.rounded(0, 19, 0), 2);
    due.is("two of them", x.round(0, 20, 0), 100);
    due.is("the lower one first", x.rounded(0, 20, 0), 1);
    due.is("all", x.round(0, 30, 0), 130);
    x.look(2);
    // 30, 40, 30: one of them.
    due.is("behind a look", x.rounded(0, 10, 0), 1);
    for (int i = 0; i < 24; i++) x.tick(300);
    // Five days later: 30, 40, 35.
    due.is("days", x.round(0, 20, 0), 75);
    due.is("days", x.round(0, 30, 0), 105);
    Due.act(x, "1=2?1", 1);
    due.is("as known NOW", x.round(0, 30, 0), 65);
  }

  static void fewestMinutes() {
    due.part("promise 42, fewest minutes");
    CityBrigade x = new CityBrigade();
    x.street(0, 1, 9);
    x.street(0, 2, 4);
    x.house(1, 0, 1, 1, -1);
    x.house(2, 0, 1, 1, -1);
    due.is("one: the nearer one", x.rounded(0, 30, 0), 1);
    due.is("its minutes", x.round(0, 30, 1), 18);
    due.is("both need 46", x.round(0, 45, 2), 1);
    due.is("both need 46", x.round(0, 46, 2), 2);
    due.is("both", x.rounded(0, 46, 0), 0);
    due.is("both", x.rounded(0, 46, 1), 1);
  }

  static void lowerHouse() {
    due.part("promise 42, the lower house");
    // On a ring of four both ways round take the same time: house 0 is at the far end, 1 and 2 between.
    CityBrigade x = new CityBrigade();
    x.street(0, 1, 3);
    x.street(1, 2, 3);
    x.street(2, 3, 3);
    x.street(3, 0, 3);
    x.house(2, 0, 1, 1, -1);
    x.house(3, 0, 1, 1, -1);
    x.house(1, 0, 1, 1, -1);
    due.is("minutes", x.round(0, 500, 1), 42);
    due.is("first", x.rounded(0, 500, 0), 1);
    due.is("second", x.rounded(0, 500, 1), 0);
    due.is("third", x.rounded(0, 500, 2), 2);
    due.none("no more", x.rounded(0, 500, 3));
    // Within 32 two of them: 0 and 1, or 0 and 2, or 1 and 2, each in 32 minutes; one alone 16 or 22.
    due.is("two of them", x.round(0, 32, 1), 32);
    due.is("first", x.rounded(0, 32, 0), 0);
    due.is("second", x.rounded(0, 32, 1), 1);
    due.is("one of them", x.rounded(0, 31, 0), 1);
    due.is("one of them", x.round(0, 31, 1), 16);
  }

  static void eightLowest() {
    due.part("promise 42, the eight lowest");
    CityBrigade x = new CityBrigade();
    x.street(0, 1, 1);
    x.house(5, 0, 1, 1, -1);
    for (int i = 1; i < 12; i++) x.house(i < 9 ? 1 : 0, 0, 1, 1, -1);
    // House 0 can't be come to; 1 .. 8 can, 9 .. 11 are nearer, but too many.
    due.is("eight", x.round(0, 500, 2), 8);
    due.is("minutes", x.round(0, 500, 1), 82);
    for (int i = 0; i < 8; i++) due.is("house " + i, x.rounded(0, 500, i), i + 1);
    due.is("none within 11", x.round(0, 11, 2), 0);
    due.is("from corner 5 house 0 alone", x.round(5, 500, 2), 1);
  }

  static void wholeRound() {
    due.part("promise 42, a whole round");
    // A line 0 - 1 - 2 - 3 of 5 each, and houses 2, 0, 1 along it: out and back 30, three looks.
    CityBrigade x = new CityBrigade();
    for (int i = 0; i < 3; i++) x.street(i, i + 1, 5);
    x.house(2, 0, 1, 1, -1);
    x.house(3, 0, 1, 1, -1);
    x.house(1, 0, 1, 1, -1);
    due.is("minutes", x.round(0, 60, 1), 60);
    // Any order that goes out once and back once: 0 1 2 is the lowest of them.
    due.is("first", x.rounded(0, 60, 0), 0);
    due.is("second", x.rounded(0, 60, 1), 1);
    due.is("third", x.rounded(0, 60, 2), 2);
    due.is("59: houses 0 and 2", x.round(0, 59, 0), 60);
    due.is("59: minutes", x.round(0, 59, 1), 40);
    due.is("59: first", x.rounded(0, 59, 0), 0);
    due.is("59: second", x.rounded(0, 59, 1), 2);
  }

  static void zeroWorth() {
    due.part("promise 42, no worth");
    CityBrigade x = new CityBrigade();
    x.house(0, 0, 1, 1, -1);
    x.house(0, 0, 1, 1, -1);
    x.look(0);
    due.is("the other one alone", x.round(0, 500, 2), 1);
    due.is("the other one alone", x.rounded(0, 500, 0), 1);
    x.look(1);
    due.is("none", x.round(0, 500, 2), 0);
    due.is("none", x.round(0, 500, 1), 0);
  }

  static void plan() {
    due.part("promises 44, 45");
    CityBrigade x = new CityBrigade();
    due.none("n 0", x.plan(0, 10));
    due.none("n 5", x.plan(5, 10));
    due.none("limit 0", x.plan(1, 0));
    due.none("limit 101", x.plan(1, 101));
    due.none("planned n 0", x.planned(0, 10, 0));
    due.none("planned n 5", x.planned(5, 10, 0));
    due.none("planned limit 0", x.planned(1, 0, 0));
    due.none("planned limit 101", x.planned(1, 101, 0));
    due.none("planned i -1", x.planned(2, 10, -1));
    due.none("planned i 2", x.planned(2, 10, 2));
    due.is("without calls", x.plan(3, 10), 0);
    for (int i = 0; i < 3; i++) due.is("corner " + i, x.planned(3, 10, i), i);
    x.street(3, 4, 6);
    x.street(4, 5, 6);
    x.call(3);
    x.call(5);
    x.call(9);
    due.is("one within 6", x.plan(1, 6), 4);
    due.is("at corner 4", x.planned(1, 6, 0), 4);
    due.is("one within 5", x.plan(1, 5), 2);
    due.is("at corner 3", x.planned(1, 5, 0), 3);
    due.is("two within 6", x.plan(2, 6), 6);
    due.is("two within 12", x.plan(2, 12), 6);
    due.is("three within 6: both calls by two", x.plan(3, 6), 2 + 3 + 2);
    due.is("three within 12", x.plan(3, 12), 3 + 3 + 2);
    due.is("first of them", x.planned(3, 12, 0), 3);
    due.is("second of them", x.planned(3, 12, 1), 4);
    due.is("third of them", x.planned(3, 12, 2), 9);
    x.closed(0, true);
    due.is("closed or not", x.plan(3, 12), 8);
    due.is("four", x.plan(4, 12), 8);
    due.is("the last of four", x.planned(4, 12, 3), 9);
    due.is("the first of four", x.planned(4, 12, 0), 0);
  }

  static void planTwoNear() {
    due.part("promise 44, points");
    CityBrigade x = new CityBrigade();
    x.street(0, 1, 1);
    x.street(1, 2, 1);
    x.street(0, 2, 1);
    x.call(0);
    due.is("one", x.plan(1, 1), 2);
    due.is("two", x.plan(2, 1), 3);
    due.is("three", x.plan(3, 1), 3);
  }

  static void planLower() {
    due.part("promise 45, the lower corner");
    CityBrigade x = new CityBrigade();
    x.call(17);
    x.call(19);
    due.is("two", x.plan(2, 100), 4);
    due.is("first", x.planned(2, 100, 0), 17);
    due.is("second", x.planned(2, 100, 1), 19);
    due.is("one", x.planned(1, 100, 0), 17);
    due.is("three", x.planned(3, 100, 0), 0);
    due.is("three", x.planned(3, 100, 1), 17);
  }

  static void planWords() {
    due.part("promise 44, calls and words");
    CityBrigade x = new CityBrigade();
    x.crew(3, 4, false, 100, 1);
    Due.orders(x, "1=1?c1");
    for (int i = 0; i < 3; i++) {
      x.call(4);
      x.tick(1);
    }
    for (int i = 0; i < 5; i++) x.call(2);
    due.is("three calls at 4, one at 2", x.plan(1, 1), 6);
    due.is("corner 4", x.planned(1, 1, 0), 4);
    due.is("both", x.plan(2, 1), 8);
  }

  static void roundEdges() {
    due.part("promises 42, 43, edges");
    CityBrigade x = new CityBrigade();
    x.street(0, 1, 3);
    x.house(1, 0, 1, 1, -1);
    for (int what = 0; what < 3; what++) due.is("within 0", x.round(0, 0, what), 0);
    due.none("within 501", x.rounded(0, 501, 0));
    due.none("within -1", x.rounded(0, -1, 0));
    due.none("corner 20", x.rounded(20, 500, 0));
    due.is("within 500", x.rounded(0, 500, 0), 0);
    due.none("within 501", x.round(0, 501, 0));
  }
}
