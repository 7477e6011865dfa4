/** Promise 33, and how a minute goes (terms, ==== 5): arriving, working, sharing water, being hurt, going home. */
public final class MinutesTest {
  static final Due due = new Due();

  public static void main(String[] args) {
    tick();
    falseCall();
    outByTheWay();
    burnedAsAMinuteWasOver();
    burnedBehindALighting();
    burnedBehindATelling();
    burnedAheadOfTheCall();
    theWorstHouse();
    goingOver();
    goingToAClosedCall();
    ladders();
    laddersAndFallenFloors();
    lowestRoom();
    chiefChooses();
    chiefElsewhere();
    chiefSeesWaterAsked();
    chiefAheadOfAll();
    chiefByTheMinute();
    chiefByQuarters();
    noRoomLeft();
    heatByWater();
    mainsMinuteByMinute();
    reachLimitsWork();
    pressure();
    mainsShare();
    mainsApart();
    leavingHalves();
    leavingLetters();
    outAndHome();
    turningHomeAtHome();
    hurtOnAFloor();
    inTheStreetNobodyIsHurt();
    tired();
    horses();
    due.over();
  }

  static CityBrigade city(String orders) {
    CityBrigade x = new CityBrigade();
    Due.orders(x, orders);
    return x;
  }

  static void tick() {
    due.part("promise 33");
    CityBrigade x = new CityBrigade();
    due.none("tick(-1)", x.tick(-1));
    due.none("tick(301)", x.tick(301));
    due.is("tick(0)", x.tick(0), 0);
    due.is("tick(1)", x.tick(1), 1);
    due.is("tick(299)", x.tick(299), 300);
    for (int i = 2; i <= 66; i++) due.is("tick(300)", x.tick(300), 300 * i);
    due.none("above 20,000", x.tick(201));
    due.is("count(0)", x.count(0), 19800);
    due.is("up to 20,000", x.tick(200), 20000);
    due.none("tick(1)", x.tick(1));
    due.is("tick(0)", x.tick(0), 20000);
  }

  static void falseCall() {
    due.part("a false call");
    CityBrigade x = city("1=1?p1");
    x.street(0, 1, 3);
    x.crew(0, 0, false, 100, 1);
    x.house(1, 2, 1, 1, -1);
    x.floor(0, 0, 100, 0);
    x.house(2, 2, 1, 1, -1);
    x.floor(1, 0, 100, 0);
    x.light(1, 0);
    x.call(1);
    x.tick(2);
    due.is("open", x.called(0, 2), 0);
    x.tick(1);
    due.is("FALSE, though a house elsewhere burns", x.called(0, 2), 2);
    due.is("closed at 3", x.called(0, 4), 3);
    due.is("on its way home", x.about(0, 0), 3);
    due.is("to corner 0", x.about(0, 1), 0);
    due.is("at 6", x.about(0, 2), 6);
    due.is("open ones", x.count(5), 0);
    due.is("false ones", x.count(6), 1);
    x.tick(3);
    due.is("READY", x.about(0, 0), 0);
  }

  static void outByTheWay() {
    due.part("a fire that went out by itself");
    CityBrigade x = city("1=1?p1");
    x.street(0, 1, 9);
    x.crew(0, 0, false, 100, 1);
    x.house(1, 2, 1, 1, -1);
    x.floor(0, 0, 3, 0);
    x.light(0, 0);
    x.call(1);
    x.tick(9);
    due.is("OUT", x.called(0, 2), 1);
    due.is("closed at 9", x.called(0, 4), 9);
    due.is("it turned home", x.about(0, 0), 3);
  }

  static void burnedAsAMinuteWasOver() {
    due.part("burned as a minute was over");
    CityBrigade x = city("1=1?p1");
    x.street(0, 1, 20);
    x.crew(0, 0, false, 100, 1);
    x.house(1, 2, 2, 1, 0);
    x.floor(0, 0, 9, 0);
    x.floor(0, 1, 0, 0);
    x.house(1, 2, 1, 1, -1);
    // A room without stuff is hot as the call comes; nothing burns there, ever.
    x.light(1, 0);
    x.call(1);
    x.tick(20);
    due.is("hot, but FALSE", x.called(0, 2), 2);
    // Another town: the house at the corner is set on fire by the one beside it, and both burn out.
    CityBrigade y = city("1=1?p1");
    y.street(0, 1, 20);
    y.crew(0, 0, false, 100, 1);
    y.house(1, 2, 1, 2, -1);
    y.build(0, true, 0, 1);
    y.floor(0, 0, 1, 0);
    y.light(0, 0);
    y.tick(1);
    due.is("burnt out as the call comes", y.housed(0, 0), 0);
    y.call(1);
    y.tick(20);
    due.is("FALSE", y.called(0, 2), 2);
  }

  static void burnedBehindALighting() {
    due.part("burned behind a lighting");
    CityBrigade x = city("1=1?p1");
    x.street(0, 1, 5);
    x.crew(0, 0, false, 100, 1);
    x.house(1, 2, 1, 1, -1);
    x.floor(0, 0, 2, 0);
    x.call(1);
    x.light(0, 0);
    // It has burnt out as the first minute is over, so only the lighting tells.
    x.tick(1);
    due.is("burns no more", x.housed(0, 0), 0);
    x.tick(4);
    due.is("OUT", x.called(0, 2), 1);
  }

  static void burnedBehindATelling() {
    due.part("burned behind a telling");
    CityBrigade x = city("1=1?p1");
    x.street(0, 1, 5);
    x.crew(0, 0, false, 100, 1);
    x.house(1, 2, 1, 1, -1);
    x.light(0, 0);
    x.call(1);
    x.floor(0, 0, 2, 0);
    x.tick(1);
    due.is("burns no more", x.housed(0, 0), 0);
    x.tick(4);
    due.is("OUT", x.called(0, 2), 1);
    CityBrigade y = city("1=1?p1");
    y.street(0, 1, 5);
    y.crew(0, 0, false, 100, 1);
    y.house(1, 2, 1, 1, -1);
    y.light(0, 0);
    y.call(1);
    y.floor(0, 0, 2, 0);
    y.floor(0, 0, 0, 0);
    y.tick(5);
    due.is("OUT, though it never burned in a minute", y.called(0, 2), 1);
  }

  static void burnedAheadOfTheCall() {
    due.part("burned as the first word came");
    CityBrigade x = city("1=1?p1");
    x.street(0, 1, 5);
    x.crew(0, 0, false, 100, 1);
    x.house(1, 2, 1, 1, -1);
    x.floor(0, 0, 2, 0);
    x.light(0, 0);
    x.call(1);
    x.tick(5);
    due.is("OUT", x.called(0, 2), 1);
  }

  static void theWorstHouse() {
    due.part("the house with the most rooms that burn");
    CityBrigade x = city("1=1?p1");
    x.crew(0, 1, false, 100, 1);
    for (int h = 0; h < 4; h++) x.house(h == 0 ? 2 : 1, 2, 1, 4, -1);
    for (int h = 0; h < 4; h++) x.floor(h, 0, 500, 0);
    for (int r = 0; r < 4; r++) x.light(0, r);
    x.light(1, 0);
    x.light(2, 0);
    x.light(2, 1);
    x.light(3, 2);
    x.light(3, 3);
    x.call(1);
    x.tick(1);
    due.is("of several the lowest", x.about(0, 4), 2);
    due.is("crews at work", x.housed(2, 5), 1);
    due.is("crews at work", x.housed(3, 5), 0);
  }

  static void goingOver() {
    due.part("going over");
    CityBrigade x = city("1=1?p1l1");
    x.main(500);
    x.head(1, 0);
    x.crew(0, 1, false, 100, 1);
    x.gear(0, 100, 20, 0);
    x.crew(2, 1, false, 100, 1);
    x.gear(1, 6, 0, 0);
    for (int h = 0; h < 3; h++) x.house(1, 2, 1, 3, -1);
    for (int h = 0; h < 3; h++) x.build(h, false, 3, 1);
    for (int h = 0; h < 3; h++) x.floor(h, 0, 400, 9);
    x.light(0, 0);
    x.light(0, 1);
    x.light(1, 0);
    x.light(2, 1);
    x.call(1);
    x.tick(2);
    due.is("in house 0", x.about(0, 4), 0);
    due.is("saved of house 0", x.housed(0, 2), 4);
    x.floor(0, 0, 0, 0);
    x.tick(1);
    due.is("over to house 1", x.about(0, 4), 1);
    due.is("the ladder, too", x.about(1, 4), 1);
    due.is("on its floor", x.about(0, 5), 0);
    due.is("water at once", x.housed(1, 6), 20);
    due.is("saved of house 1", x.housed(1, 2), 2);
    x.light(2, 2);
    x.tick(1);
    due.is("stays as long as it burns", x.about(0, 4), 1);
    x.floor(1, 0, 0, 0);
    x.tick(1);
    due.is("over to house 2", x.about(0, 4), 2);
    x.floor(2, 0, 0, 0);
    x.tick(1);
    due.is("no other one: home", x.about(0, 0), 0);
    due.is("OUT", x.called(0, 2), 1);
  }

  static void goingToAClosedCall() {
    due.part("going to a call that is closed");
    CityBrigade x = city("1=1?p2");
    x.street(0, 1, 5);
    x.street(2, 1, 9);
    x.crew(0, 0, false, 100, 1);
    x.crew(0, 2, false, 100, 1);
    x.house(1, 2, 1, 1, -1);
    x.call(1);
    x.tick(5);
    due.is("FALSE", x.called(0, 2), 2);
    due.is("the other one goes on", x.about(1, 0), 1);
    x.floor(0, 0, 500, 0);
    x.light(0, 0);
    x.tick(4);
    due.is("it turns home, though it burns there", x.about(1, 0), 3);
    due.is("at 18", x.about(1, 2), 18);
    due.is("closed at 5", x.called(0, 4), 5);
  }

  static void ladders() {
    due.part("ladders");
    CityBrigade x = city("1=1?l2");
    x.crew(2, 1, false, 100, 1);
    x.crew(2, 1, false, 100, 1);
    x.gear(0, 2, 0, 0);
    x.gear(1, 3, 0, 0);
    x.house(1, 2, 4, 1, -1);
    x.floor(0, 0, 500, 1);
    x.floor(0, 1, 0, 3);
    x.floor(0, 2, 0, 1);
    x.floor(0, 3, 0, 8);
    x.light(0, 0);
    x.call(1);
    x.tick(1);
    due.is("of floor 1 two, of floor 2 one", x.housed(0, 2), 3);
    due.is("floor 2", x.floored(0, 2, 2), 0);
    due.is("floor 1", x.floored(0, 1, 2), 1);
    due.is("a ladder is on no floor", x.about(0, 5), -1);
    x.tick(1);
    due.is("of floor 1 the last one, of floor 0 the only one", x.housed(0, 2), 5);
    due.is("floor 0", x.floored(0, 0, 2), 0);
    x.tick(1);
    due.is("nobody that they can reach", x.housed(0, 2), 5);
    due.is("floor 3", x.floored(0, 3, 2), 8);
    due.is("saved in all", x.count(8), 5);
  }

  static void laddersAndFallenFloors() {
    due.part("ladders and the fire");
    // Those who are taken out in a minute are not lost in it.
    CityBrigade x = city("1=1?l1");
    x.crew(2, 1, false, 100, 1);
    x.house(1, 2, 1, 2, -1);
    x.floor(0, 0, 500, 3);
    x.light(0, 0);
    x.light(0, 1);
    x.tick(3);
    x.call(1);
    x.tick(1);
    due.is("two are saved", x.housed(0, 2), 2);
    due.is("the third one is lost", x.housed(0, 3), 1);
    due.is("nobody left", x.floored(0, 0, 2), 0);
  }

  /** A house of iron with 3 floors of 2 rooms at corner 1, with a head there, pumps and a chief. */
  static CityBrigade works(String orders, int pumps, int gallons) {
    CityBrigade x = city(orders);
    x.main(2000);
    x.head(1, 0);
    x.house(1, 2, 3, 2, -1);
    for (int f = 0; f < 3; f++) x.floor(0, f, 500, 0);
    for (int i = 0; i < pumps; i++) {
      x.crew(0, 1, false, 100, 1);
      x.gear(i, 100, gallons, 0);
    }
    return x;
  }

  static void lowestRoom() {
    due.part("the lowest room");
    CityBrigade x = works("1=1?p2", 2, 101);
    x.light(0, 5);
    x.light(0, 3);
    x.tick(1);
    x.light(0, 3);
    x.call(1);
    x.tick(1);
    due.is("both on floor 1", x.about(0, 5), 1);
    due.is("both on floor 1", x.about(1, 5), 1);
    // 450 and 50 and 5 of the room above, less 202 by 4, cut.
    due.is("room 3", x.room(0, 3, 0), 455 + 55 - 50);
    due.is("gallons", x.housed(0, 6), 202);
    due.is("what it got", x.about(0, 8), 101);
    x.tick(1);
    due.is("gallons in all", x.housed(0, 6), 404);
  }

  static void chiefChooses() {
    due.part("a chief chooses");
    CityBrigade x = works("1=1?p3c1", 3, 100);
    x.crew(3, 1, false, 100, 1);
    x.light(0, 0);
    x.light(0, 4);
    x.tick(1);
    x.light(0, 1);
    x.call(1);
    x.tick(1);
    // Room 0 had 460? It burned alone: 450; room 4 450; room 1 400, lit now. As it stands: 0 first.
    // Pump 0 on room 0 (450), pump 1 on room 4 (450 against 425), pump 2 on room 0 (425 against 425, 400).
    due.is("pump 0 on floor 0", x.about(0, 5), 0);
    due.is("pump 1 on floor 2", x.about(1, 5), 2);
    due.is("pump 2 on floor 0", x.about(2, 5), 0);
    due.is("room 0", x.room(0, 0, 0), 450 + 50 + 10 - 50);
    due.is("room 4", x.room(0, 4, 0), 450 + 50 - 25);
    due.is("room 1", x.room(0, 1, 0), 400 + 50 + 10);
    due.is("the chief is on no floor", x.about(3, 5), -1);
    due.is("and at work", x.housed(0, 5), 4);
  }

  static void chiefElsewhere() {
    due.part("a chief elsewhere");
    CityBrigade x = works("w=1?c1;w=2?p1", 1, 100);
    x.crew(3, 1, false, 100, 1);
    x.house(1, 2, 1, 3, -1);
    x.build(1, false, 3, 1);
    x.build(0, false, 3, 1);
    x.floor(1, 0, 500, 0);
    x.light(1, 0);
    x.call(1);
    x.tick(1);
    due.is("the chief is in house 1", x.about(1, 4), 1);
    x.light(0, 4);
    x.light(0, 5);
    x.tick(1);
    x.light(0, 0);
    x.call(1);
    x.tick(1);
    due.is("the pump is in house 0", x.about(0, 4), 0);
    due.is("on the lowest room", x.about(0, 5), 0);
  }

  static void chiefSeesWaterAsked() {
    due.part("as if each got all it asks");
    // A main that gives little: the second pump sees the 400 that were asked, not the 8 that come.
    CityBrigade x = city("1=1?p2c1");
    x.main(10);
    x.head(1, 0);
    x.house(1, 2, 1, 2, -1);
    x.floor(0, 0, 500, 0);
    x.crew(0, 1, false, 100, 1);
    x.crew(0, 1, false, 100, 1);
    x.gear(0, 100, 400, 0);
    x.gear(1, 100, 100, 0);
    x.crew(3, 1, false, 100, 1);
    x.light(0, 1);
    x.tick(1);
    x.light(0, 0);
    x.call(1);
    x.tick(1);
    due.is("pump 0 gets", x.about(0, 8), 8);
    due.is("pump 1 gets", x.about(1, 8), 2);
    // Room 1 (450) has 8, room 0 (400) has 2: each less 2 and 0.
    due.is("room 1", x.room(0, 1, 0), 450 + 50 + 10 - 2);
    due.is("room 0", x.room(0, 0, 0), 400 + 50 + 10);
  }

  static void reachLimitsWork() {
    due.part("the reach at work");
    CityBrigade x = city("1=1?p2");
    x.street(0, 1, 1);
    x.main(1000);
    x.head(0, 0);
    x.house(1, 2, 3, 1, -1);
    for (int f = 0; f < 3; f++) x.floor(0, f, 500, 0);
    x.crew(0, 1, false, 100, 1);
    x.crew(0, 1, false, 100, 1);
    x.gear(0, 140, 50, 0);
    x.gear(1, 160, 50, 0);
    x.light(0, 2);
    x.call(1);
    x.tick(1);
    due.is("up to floor 1: no room", x.about(0, 5), -1);
    due.is("no water", x.about(0, 8), 0);
    due.is("up to floor 2", x.about(1, 5), 2);
    due.is("water", x.about(1, 8), 50);
    due.is("both at work", x.housed(0, 5), 2);
  }

  static void pressure() {
    due.part("pressure");
    CityBrigade x = city("1=1?s1");
    x.street(0, 1, 2);
    x.main(1000);
    x.head(1, 0);
    x.house(1, 2, 1, 1, -1);
    x.floor(0, 0, 500, 0);
    x.crew(1, 0, false, 100, 1);
    x.gear(0, 100, 60, 3);
    x.light(0, 0);
    x.call(1);
    x.tick(2);
    for (int minute = 2; minute < 5; minute++) {
      due.is("at work at " + minute, x.about(0, 0), 2);
      due.is("without water at " + minute, x.about(0, 8), 0);
      due.is("on no floor at " + minute, x.about(0, 5), -1);
      x.tick(1);
    }
    due.is("water at 5", x.about(0, 8), 60);
    due.is("on floor 0", x.about(0, 5), 0);
    due.is("gallons", x.housed(0, 6), 60);
    // 400, .. 600 behind four minutes, then 50 less 15.
    due.is("heat", x.room(0, 0, 0), 635);
  }

  static void mainsShare() {
    due.part("a main is shared");
    CityBrigade x = city("1=1?p3");
    x.main(100);
    x.head(1, 0);
    x.house(1, 2, 1, 1, -1);
    x.floor(0, 0, 500, 0);
    int[] gallons = {80, 50, 10};
    for (int i = 0; i < 3; i++) {
      x.crew(0, 1, false, 100, 1);
      x.gear(i, 100, gallons[i], 0);
    }
    x.light(0, 0);
    x.call(1);
    x.tick(1);
    due.is("80 of 140", x.about(0, 8), 57);
    due.is("50 of 140", x.about(1, 8), 35);
    due.is("10 of 140", x.about(2, 8), 7);
    due.is("gallons", x.housed(0, 6), 99);
    due.is("heat", x.room(0, 0, 0), 450 - 24);
  }

  static void mainsApart() {
    due.part("mains apart");
    // Corner 1 has main 0, corner 2 main 1 and, farther, main 0; both corners burn.
    CityBrigade x = city("1=1?p2");
    x.street(1, 2, 5);
    x.main(60);
    x.main(500);
    x.head(1, 0);
    x.head(2, 1);
    for (int c = 1; c <= 2; c++) {
      x.house(c, 2, 1, 1, -1);
      x.floor(c - 1, 0, 500, 0);
      x.light(c - 1, 0);
    }
    for (int i = 0; i < 4; i++) {
      x.crew(0, 1 + i / 2, false, 100, 1);
      x.gear(i, 100, 30 + i, 0);
    }
    x.call(1);
    x.call(2);
    x.tick(1);
    due.is("30 of 61, 60 given", x.about(0, 8), 29);
    due.is("31 of 61, 60 given", x.about(1, 8), 30);
    due.is("of the other main all", x.about(2, 8), 32);
    due.is("of the other main all", x.about(3, 8), 33);
    x.gear(0, 100, 30, 0);
    CityBrigade y = city("1=1?p2");
    y.main(61);
    y.head(1, 0);
    y.house(1, 2, 1, 1, -1);
    y.floor(0, 0, 500, 0);
    y.light(0, 0);
    for (int i = 0; i < 2; i++) {
      y.crew(0, 1, false, 100, 1);
      y.gear(i, 100, 30 + i, 0);
    }
    y.call(1);
    y.tick(1);
    due.is("no more than it gives", y.about(0, 8), 30);
    due.is("no more than it gives", y.about(1, 8), 31);
  }

  static void leavingHalves() {
    due.part("leaving");
    CityBrigade x = works("1=1?p2", 2, 45);
    x.crew(0, 1, false, 100, 7);
    x.light(0, 2);
    Due.leaving(x, "v=1&m<5");
    x.call(1);
    x.tick(1);
    due.is("half, cut", x.about(0, 8), 22);
    due.is("in the street", x.about(0, 5), -1);
    due.is("at work", x.about(0, 4), 0);
    due.is("heat", x.room(0, 2, 0), 450 - 11);
    Due.leaving(x, "v=2");
    x.tick(1);
    due.is("all", x.about(0, 8), 45);
    due.is("on the floor", x.about(0, 5), 1);
    due.is("with another text alone", x.about(1, 5), 1);
  }

  static boolean leaves(String condition) {
    // Wood, two floors of two rooms: floor 1 burns from minute 0 on, called at 3, worked at from 4 to 6.
    CityBrigade x = city("1=1?p1");
    x.main(2000);
    x.head(1, 0);
    x.house(1, 0, 2, 2, -1);
    x.floor(0, 0, 500, 0);
    x.floor(0, 1, 500, 0);
    x.crew(0, 1, false, 100, 6);
    x.gear(0, 100, 40, 0);
    x.light(0, 0);
    x.light(0, 3);
    x.tick(3);
    x.floor(0, 0, 0, 0);
    x.call(1);
    x.tick(2);
    due.yes("a text: " + condition, Due.leaving(x, condition));
    // The letters of orders are asked in between.
    x.asks(0, 3, 0);
    x.tick(1);
    due.is("at work", x.about(0, 0), 2);
    return x.about(0, 8) == 20;
  }

  static void leavingLetters() {
    due.part("letters of leaving");
    due.yes("v", leaves("v=1"));
    // BURNT of floor 0: 2 2 3, of floor 1 as the sixth minute is worked: 2 2 3 3 3; LOAD 27 of 120: 22.5.
    due.yes("b", leaves("b=22"));
    due.no("b", leaves("b=23"));
    due.yes("e", leaves("e=2"));
    due.no("e", leaves("e=3"));
    // 400, 450, 500, 550, then 590 and 630 with ten less of forty gallons: as minute 6 is worked 630.
    due.yes("t", leaves("t=630"));
    due.yes("m", leaves("m=6"));
    due.yes("g", leaves("g=1"));
    due.no("g", leaves("g=2"));
  }

  static void outAndHome() {
    due.part("out and home");
    CityBrigade x = city("1=1?p1l1");
    x.street(0, 1, 4);
    x.main(2000);
    x.head(1, 0);
    x.house(1, 2, 1, 1, -1);
    x.floor(0, 0, 500, 4);
    x.crew(0, 0, false, 100, 1);
    x.gear(0, 100, 500, 0);
    x.crew(2, 1, false, 100, 1);
    x.light(0, 0);
    x.call(1);
    // The ladder is there at once; the pump at 4: 400, 450, 500, 550, then 75 less a minute: 475, 400, 325, 250.
    x.tick(4);
    due.is("heat at 4", x.room(0, 0, 0), 475);
    x.tick(2);
    due.is("heat at 6", x.room(0, 0, 0), 325);
    due.is("open", x.called(0, 2), 0);
    x.tick(1);
    due.is("heat at 7", x.room(0, 0, 0), 250);
    due.is("OUT", x.called(0, 2), 1);
    due.is("closed at 7", x.called(0, 4), 7);
    due.is("the pump is on its way", x.about(0, 0), 3);
    due.is("till 11", x.about(0, 2), 11);
    due.is("it got in the last minute", x.about(0, 8), 500);
    due.is("the ladder is READY", x.about(1, 0), 0);
    due.is("in no house", x.about(1, 4), -1);
    due.is("saved", x.housed(0, 2), 4);
    due.is("nobody at work", x.housed(0, 5), 0);
    x.tick(1);
    due.is("nothing in the last minute", x.about(0, 8), 0);
    due.is("gallons", x.housed(0, 6), 2000);
  }

  static void turningHomeAtHome() {
    due.part("turning home where no way is");
    CityBrigade x = city("1=1?p1");
    x.street(0, 1, 4);
    x.crew(0, 0, false, 100, 1);
    x.call(1);
    x.closed(0, true);
    x.tick(4);
    due.is("FALSE", x.called(0, 2), 2);
    due.is("READY", x.about(0, 0), 0);
    due.is("at HOME at once", x.about(0, 1), 0);
  }

  static void hurtOnAFloor() {
    due.part("hurt on a floor");
    CityBrigade x = city("1=1?p1s1l1");
    x.main(1000);
    x.head(1, 0);
    x.house(1, 0, 3, 1, -1);
    x.floor(0, 0, 500, 0);
    x.floor(0, 1, 500, 6);
    x.floor(0, 2, 500, 6);
    x.crew(0, 1, false, 100, 1);
    x.crew(1, 1, false, 100, 1);
    x.gear(1, 100, 10, 30);
    x.crew(2, 1, false, 100, 1);
    x.gear(2, 1, 0, 0);
    // Floor 1 is lit as the tower has burnt below for nine minutes: it falls in the tenth one.
    x.light(0, 0);
    x.tick(9);
    x.floor(0, 0, 0, 0);
    x.light(0, 1);
    x.call(1);
    x.tick(1);
    due.is("LOAD 56 of 60", x.floored(0, 1, 3), 56);
    due.is("on floor 1", x.about(0, 5), 1);
    x.tick(1);
    due.is("LOAD 58", x.floored(0, 1, 3), 58);
    due.is("stands", x.floored(0, 1, 1), 0);
    x.tick(1);
    due.is("fallen", x.floored(0, 1, 1), 1);
    due.is("the pump is HURT", x.about(0, 0), 4);
    due.is("the steamer was on no floor", x.about(1, 0), 2);
    due.is("nor the ladder", x.about(2, 0), 2);
    due.is("lost", x.housed(0, 3), 6);
    due.is("hurt now", x.count(10), 1);
    due.is("what it got in that minute", x.about(0, 8), 10);
    x.tick(1);
    due.is("nothing then", x.about(0, 8), 0);
    due.is("open: floor 0 burns by what fell", x.called(0, 2), 0);
  }

  static void inTheStreetNobodyIsHurt() {
    due.part("in the street nobody is hurt");
    CityBrigade x = city("1=1?p1");
    x.main(1000);
    x.head(1, 0);
    x.house(1, 0, 2, 1, -1);
    x.floor(0, 0, 500, 0);
    x.floor(0, 1, 500, 0);
    x.crew(0, 1, false, 100, 1);
    Due.leaving(x, "b=93|b=96");
    x.light(0, 0);
    x.tick(9);
    x.floor(0, 0, 0, 0);
    x.light(0, 1);
    x.call(1);
    x.tick(1);
    due.is("LOAD 54 of 60 is 90: on the floor", x.about(0, 5), 1);
    x.tick(1);
    due.is("LOAD 56 of 60 is 93, then 58 is 96: in the street", x.about(0, 5), -1);
    x.tick(1);
    due.is("it fell", x.floored(0, 1, 1), 1);
    due.is("nobody was on it", x.about(0, 0), 2);
    due.is("hurt now", x.count(10), 0);
  }

  static void tired() {
    due.part("tired");
    CityBrigade x = city("1=1?p1c1");
    x.street(0, 1, 20);
    for (int p = 0; p < 4; p++) x.jam(0, p, 400);
    x.crew(0, 0, false, 100, 1);
    x.crew(3, 1, true, 50, 1);
    x.house(1, 2, 1, 1, -1);
    x.floor(0, 0, 500, 0);
    x.light(0, 0);
    x.call(1);
    x.tick(79);
    due.is("going: one more a minute", x.about(0, 6), 79);
    due.is("at work: two more a minute", x.about(1, 6), 158);
    x.tick(1);
    due.is("at work as it is there", x.about(0, 6), 81);
    x.floor(0, 0, 500, 0);
    x.tick(69);
    due.is("two more a minute", x.about(0, 6), 219);
    due.is("298", x.about(1, 6), 298);
    x.tick(2);
    due.is("300 at most", x.about(1, 6), 300);
    due.is("SLOW with horses", x.about(1, 7), 150);
    due.is("SLOW without", x.about(0, 7), 100);
    x.floor(0, 0, 0, 0);
    x.tick(1);
    due.is("the chief is home", x.about(1, 0), 0);
    due.is("READY: one less", x.about(1, 6), 299);
    due.is("the pump is on its way", x.about(0, 0), 3);
    due.is("one more", x.about(0, 6), 224);
    x.tick(300);
    due.is("0 at least", x.about(1, 6), 0);
  }

  static void horses() {
    due.part("horses");
    CityBrigade x = city("w=1?p2");
    x.street(0, 1, 10);
    x.crew(0, 0, true, 100, 1);
    x.crew(0, 0, false, 100, 1);
    x.call(1);
    x.tick(10);
    due.is("FALSE", x.called(0, 2), 2);
    // TIRED is 9 as it turns home in minute 10: SLOW 103, eleven minutes.
    due.is("with horses home at 21", x.about(0, 2), 21);
    due.is("without at 20", x.about(1, 2), 20);
    x.tick(11);
    due.is("TIRED", x.about(0, 6), 19);
    due.is("SLOW", x.about(0, 7), 106);
    x.call(1);
    due.is("slower this time", x.about(0, 2), 21 + 11);
    due.is("as ever", x.about(1, 2), 21 + 10);
  }

  static void chiefAheadOfAll() {
    due.part("a chief that is the first crew");
    CityBrigade x = city("1=1?p1c1");
    x.main(2000);
    x.head(1, 0);
    x.house(1, 2, 2, 1, -1);
    x.floor(0, 0, 500, 0);
    x.floor(0, 1, 500, 0);
    x.crew(3, 1, false, 100, 1);
    x.crew(0, 1, false, 100, 1);
    x.light(0, 1);
    x.tick(1);
    x.light(0, 0);
    x.call(1);
    x.tick(1);
    due.is("on floor 1", x.about(1, 5), 1);
  }

  static void chiefByTheMinute() {
    due.part("a chief sees this minute's water alone");
    CityBrigade x = works("1=1?p1c1", 1, 80);
    x.crew(3, 1, false, 100, 1);
    x.light(0, 4);
    x.tick(1);
    x.light(0, 0);
    x.call(1);
    // Room 4: 450, 480, 510; room 0: 400, 450, 500: if the water of three minutes counted, room 0 came first.
    x.tick(3);
    due.is("room 4", x.room(0, 4, 0), 540);
    due.is("room 0", x.room(0, 0, 0), 550);
    due.is("still on floor 2 in minute 4", x.about(0, 5), 2);
    x.tick(1);
    due.is("now room 0", x.about(0, 5), 0);
  }

  static int second(int gallons) {
    CityBrigade x = works("1=1?p2c1", 2, gallons);
    x.crew(3, 1, false, 100, 1);
    x.light(0, 4);
    x.tick(1);
    x.light(0, 0);
    x.call(1);
    x.tick(1);
    due.is("the first one", x.about(0, 5), 2);
    return x.about(1, 5);
  }

  static void chiefByQuarters() {
    due.part("HEAT less the water by 4");
    due.is("450 less 49 is above 400", second(199), 2);
    due.is("450 less 50 is 400: the lower one", second(203), 0);
    due.is("450 less 51", second(204), 0);
  }

  static void noRoomLeft() {
    due.part("no room left in reach");
    CityBrigade x = city("1=1?p1");
    x.main(2000);
    x.head(1, 0);
    x.house(1, 2, 6, 1, -1);
    x.floor(0, 0, 500, 0);
    x.floor(0, 5, 500, 0);
    x.crew(0, 1, false, 100, 1);
    x.light(0, 0);
    x.light(0, 5);
    x.call(1);
    x.tick(1);
    due.is("on floor 0", x.about(0, 5), 0);
    x.floor(0, 0, 0, 0);
    x.tick(1);
    due.is("at work", x.about(0, 0), 2);
    due.is("on no floor", x.about(0, 5), -1);
    due.is("no water", x.about(0, 8), 0);
    due.is("gallons", x.housed(0, 6), 10);
  }

  static void heatByWater() {
    due.part("HEAT by water");
    CityBrigade x = city("1=1?p1");
    x.main(2000);
    x.head(1, 0);
    x.house(1, 2, 1, 1, -1);
    x.floor(0, 0, 500, 5);
    x.crew(0, 1, false, 100, 1);
    x.gear(0, 100, 68, 0);
    x.light(0, 0);
    x.tick(2);
    x.call(1);
    x.tick(3);
    due.is("500 and three times 33", x.room(0, 0, 0), 599);
    due.is("599 is not enough", x.housed(0, 3), 0);
    x.tick(1);
    due.is("632 is", x.housed(0, 3), 1);
    CityBrigade y = city("1=1?p1");
    y.main(2000);
    y.head(1, 0);
    y.house(1, 2, 1, 1, -1);
    y.floor(0, 0, 500, 0);
    y.crew(0, 1, false, 100, 1);
    y.light(0, 0);
    y.tick(1);
    y.call(1);
    y.tick(1);
    due.is("450 and 48", y.room(0, 0, 0), 498);
    y.tick(1);
    due.is("498 by 250, cut", y.floored(0, 0, 0), 6);
  }

  static void mainsMinuteByMinute() {
    due.part("a main gives every minute");
    CityBrigade x = city("1=1?p2");
    x.main(100);
    x.head(1, 0);
    x.house(1, 2, 1, 1, -1);
    x.floor(0, 0, 500, 0);
    for (int i = 0; i < 2; i++) {
      x.crew(0, 1, false, 100, 1);
      x.gear(i, 100, 50, 0);
    }
    x.light(0, 0);
    x.call(1);
    for (int i = 1; i <= 4; i++) {
      x.tick(1);
      due.is("all it asks in minute " + i, x.about(0, 8), 50);
    }
    due.is("gallons", x.housed(0, 6), 400);
  }
}
