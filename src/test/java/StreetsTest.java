/** Promises 1 to 6: a new object, streets, jams, closed ones, come, feet. */
public final class StreetsTest {
  static final Due due = new Due();

  public static void main(String[] args) {
    newObject();
    street();
    jam();
    closed();
    come();
    comeWhereLaterIsSooner();
    comeWithin600();
    comeIsCutUp();
    everyStreetJams();
    feet();
    due.over();
  }

  static void newObject() {
    due.part("promise 1");
    CityBrigade x = new CityBrigade();
    for (int what = 0; what <= 16; what++) due.is("count(" + what + ")", x.count(what), 0);
    due.none("housed(0, 0)", x.housed(0, 0));
    due.none("called(0, 0)", x.called(0, 0));
    due.is("failing()", x.failing(), 0);
    due.is("tick(0)", x.tick(0), 0);
    due.is("come(3, 3, 9, 50)", x.come(3, 3, 9, 50), 9);
    due.none("come(3, 4, 9, 50)", x.come(3, 4, 9, 50));
    due.is("asks(0, 1, 0)", x.asks(0, 1, 0), 0);
    due.is("why(0, 1)", x.why(0, 1), 0);
    CityBrigade other = new CityBrigade();
    x.street(0, 1, 1);
    due.is("another object's count(1)", other.count(1), 0);
  }

  static void street() {
    due.part("promise 2");
    CityBrigade x = new CityBrigade();
    due.none("street(-1, 1, 5)", x.street(-1, 1, 5));
    due.none("street(20, 1, 5)", x.street(20, 1, 5));
    due.none("street(1, -1, 5)", x.street(1, -1, 5));
    due.none("street(1, 20, 5)", x.street(1, 20, 5));
    due.none("street(0, 1, 0)", x.street(0, 1, 0));
    due.none("street(0, 1, 21)", x.street(0, 1, 21));
    due.none("street(7, 7, 5)", x.street(7, 7, 5));
    due.is("count(1)", x.count(1), 0);
    due.is("street(19, 0, 20)", x.street(19, 0, 20), 0);
    due.is("street(0, 19, 1)", x.street(0, 19, 1), 1);
    for (int i = 2; i < 40; i++) due.is("street " + i, x.street(i % 19, i % 19 + 1, 3), i);
    due.none("street 40", x.street(0, 1, 3));
    due.is("count(1)", x.count(1), 40);
    due.is("feet(0, 19)", x.feet(0, 19), 100);
  }

  static void jam() {
    due.part("promise 3");
    CityBrigade x = new CityBrigade();
    due.no("jam(0, 0, 100) without a street", x.jam(0, 0, 100));
    x.street(0, 1, 10);
    due.no("jam(-1, 0, 100)", x.jam(-1, 0, 100));
    due.no("jam(1, 0, 100)", x.jam(1, 0, 100));
    due.no("jam(0, -1, 100)", x.jam(0, -1, 100));
    due.no("jam(0, 4, 100)", x.jam(0, 4, 100));
    due.no("jam(0, 0, 99)", x.jam(0, 0, 99));
    due.no("jam(0, 0, 401)", x.jam(0, 0, 401));
    for (int part = 0; part < 4; part++) due.is("come at first in part " + part, x.come(0, 1, 360 * part, 100), 360 * part + 10);
    due.yes("jam(0, 0, 400)", x.jam(0, 0, 400));
    due.yes("jam(0, 3, 150)", x.jam(0, 3, 150));
    due.yes("jam(0, 3, 150) again", x.jam(0, 3, 150));
    due.is("come in part 0", x.come(0, 1, 0, 100), 40);
    due.is("come in part 1", x.come(0, 1, 360, 100), 370);
    due.is("come in part 3", x.come(0, 1, 1439, 100), 1454);
    due.is("come on the next day", x.come(0, 1, 1440, 100), 1480);
    due.yes("jam(0, 0, 100)", x.jam(0, 0, 100));
    due.is("come in part 0", x.come(0, 1, 0, 100), 10);
  }

  static void closed() {
    due.part("promise 4");
    CityBrigade x = new CityBrigade();
    due.no("closed(0, true) without a street", x.closed(0, true));
    x.street(0, 1, 10);
    due.no("closed(0, false), as it is so", x.closed(0, false));
    due.no("closed(-1, true)", x.closed(-1, true));
    due.no("closed(1, true)", x.closed(1, true));
    due.yes("closed(0, true)", x.closed(0, true));
    due.no("closed(0, true) again", x.closed(0, true));
    due.none("come(0, 1, 0, 100)", x.come(0, 1, 0, 100));
    due.none("come(1, 0, 0, 100)", x.come(1, 0, 0, 100));
    due.yes("closed(0, false)", x.closed(0, false));
    due.is("come(1, 0, 0, 100)", x.come(1, 0, 0, 100), 10);
  }

  static void come() {
    due.part("promise 5");
    CityBrigade x = new CityBrigade();
    x.street(0, 1, 3);
    x.street(1, 2, 4);
    x.street(0, 2, 9);
    due.is("through both", x.come(0, 2, 5, 100), 12);
    due.is("each street is cut up by itself", x.come(0, 2, 0, 50), 4);
    due.is("slow 51", x.come(0, 1, 0, 51), 2);
    due.is("slow 34 of a hundred more", x.come(0, 1, 0, 134), 5);
    due.is("slow 300", x.come(0, 2, 0, 300), 21);
    due.is("back", x.come(2, 0, 5, 100), 12);
    due.is("minute 30000", x.come(0, 1, 30000, 100), 30003);
    due.is("the same corner at 30000", x.come(4, 4, 30000, 100), 30000);
    due.none("minute 30001", x.come(0, 1, 30001, 100));
    due.none("minute -1", x.come(0, 1, -1, 100));
    due.none("slow 49", x.come(0, 1, 0, 49));
    due.none("slow 301", x.come(0, 1, 0, 301));
    due.none("from -1", x.come(-1, 1, 0, 100));
    due.none("to 20", x.come(0, 20, 0, 100));
    due.none("from 20", x.come(20, 20, 0, 100));
    due.none("no way", x.come(0, 3, 0, 100));
    // The part is asked as each street is entered.
    x.jam(0, 0, 200);
    x.jam(1, 1, 300);
    due.is("from part 0 into part 1", x.come(0, 2, 355, 100), 364);
    due.is("jams ahead and behind", x.come(0, 2, 353, 100), 362);
    x.closed(2, true);
    due.is("the second street is entered at 361", x.come(0, 2, 355, 100), 373);
    due.is("the second street is entered at 359", x.come(0, 2, 353, 100), 363);
  }

  static void comeWhereLaterIsSooner() {
    due.part("promise 5, later is sooner");
    CityBrigade x = new CityBrigade();
    x.street(0, 1, 20);
    x.jam(0, 0, 400);
    due.is("straight, at 355", x.come(0, 1, 355, 100), 435);
    x.street(0, 2, 3);
    due.is("over 2 and back, then straight", x.come(0, 1, 355, 100), 381);
    x.closed(1, true);
    due.is("without that", x.come(0, 1, 355, 100), 435);
  }

  static void comeWithin600() {
    due.part("promise 5, up to 600");
    CityBrigade x = new CityBrigade();
    for (int i = 0; i < 10; i++) {
      x.street(i, i + 1, 20);
      for (int part = 0; part < 4; part++) x.jam(i, part, 300);
    }
    due.is("600 minutes", x.come(0, 10, 100, 100), 700);
    due.none("more than 600 minutes", x.come(0, 10, 100, 101));
    due.is("nine of them", x.come(0, 9, 100, 101), 100 + 9 * 61);
    due.none("three of 240 minutes", x.come(0, 4, 0, 300));
    due.is("three of 180 minutes", x.come(0, 3, 0, 300), 540);
  }

  static void feet() {
    due.part("promise 6");
    CityBrigade x = new CityBrigade();
    x.street(0, 1, 7);
    x.street(1, 2, 8);
    due.is("feet(0, 2)", x.feet(0, 2), 1500);
    due.is("feet(2, 0)", x.feet(2, 0), 1500);
    x.street(2, 0, 14);
    due.is("feet(0, 2) shorter", x.feet(0, 2), 1400);
    x.closed(2, true);
    x.jam(0, 0, 400);
    due.is("feet(0, 2), closed and jammed", x.feet(0, 2), 1400);
    due.is("feet(5, 5)", x.feet(5, 5), 0);
    due.none("feet(0, 3)", x.feet(0, 3));
    due.none("feet(-1, 0)", x.feet(-1, 0));
    due.none("feet(0, 20)", x.feet(0, 20));
    due.none("feet(20, 20)", x.feet(20, 20));
    x.street(3, 4, 1);
    x.street(4, 0, 2);
    due.is("feet(3, 2), two parts joined", x.feet(3, 2), 1700);
  }

  static void comeIsCutUp() {
    due.part("promise 5, cut up");
    CityBrigade x = new CityBrigade();
    x.street(0, 1, 1);
    x.jam(0, 0, 113);
    due.is("2.0001 minutes", x.come(0, 1, 0, 177), 3);
    x.street(2, 3, 4);
    x.jam(1, 0, 393);
    due.is("47.0028 minutes", x.come(2, 3, 0, 299), 48);
    x.jam(1, 0, 400);
    due.is("40 minutes", x.come(2, 3, 0, 250), 40);
    CityBrigade y = new CityBrigade();
    for (int i = 0; i < 9; i++) {
      y.street(i, i + 1, 20);
      for (int part = 0; part < 4; part++) y.jam(i, part, 300);
    }
    y.street(9, 10, 19);
    for (int part = 0; part < 4; part++) y.jam(9, part, 321);
    // Nine of 60, and 60.99 cut up: 601 in all.
    due.none("601 minutes", y.come(0, 10, 0, 100));
    due.is("61 minutes", y.come(9, 10, 0, 100), 61);
  }

  static void everyStreetJams() {
    due.part("promise 3, every street");
    CityBrigade x = new CityBrigade();
    for (int i = 0; i < 40; i++) x.street(i % 20, (i + 1) % 20, 10);
    for (int s = 0; s < 40; s++) for (int part = 0; part < 4; part++) due.yes("jam(" + s + ", " + part + ", ..)", x.jam(s, part, 100 + 4 * s + part));
    for (int s = 0; s < 20; s++) x.closed(s, true);
    for (int s = 20; s < 40; s++) for (int part = 0; part < 4; part++) {
      int takes = (1000 * (100 + 4 * s + part) + 9999) / 10000;
      due.is("street " + s + " in part " + part, x.come(s % 20, (s + 1) % 20, 360 * part, 100), 360 * part + takes);
    }
    due.none("street 20", x.street(0, 2, 3));
  }
}
