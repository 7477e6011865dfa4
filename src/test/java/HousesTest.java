/** Promises 7 to 14, and how rooms burn and floors fall (terms, ==== 2); promise 52, what if. */
public final class HousesTest {
  static final Due due = new Due();

  public static void main(String[] args) {
    house();
    build();
    use();
    floor();
    light();
    asked();
    gainOnAFloor();
    gainFromFloors();
    gainFromBeside();
    gainFromBesideByNumbers();
    heatIsBounded();
    burning();
    floorFalls();
    floorFallsByKinds();
    floorsFallThroughEachOther();
    stuffThatFallsIsBounded();
    fallOntoAFallenFloor();
    peopleAreLost();
    fullHouses();
    doorsLeadToNoOtherFloor();
    besideALowerHouse();
    loadOnTheEdge();
    burningOnTheEdge();
    whatIfAgain();
    whatIf();
    due.over();
  }

  static void house() {
    due.part("promise 7");
    CityBrigade x = new CityBrigade();
    due.none("corner -1", x.house(-1, 0, 1, 1, -1));
    due.none("corner 20", x.house(20, 0, 1, 1, -1));
    due.none("kind -1", x.house(0, -1, 1, 1, -1));
    due.none("kind 3", x.house(0, 3, 1, 1, -1));
    due.none("floors 0", x.house(0, 0, 0, 1, -1));
    due.none("floors 7", x.house(0, 0, 7, 1, -1));
    due.none("rooms 0", x.house(0, 0, 1, 0, -1));
    due.none("rooms 5", x.house(0, 0, 1, 5, -1));
    due.none("shaft -2", x.house(0, 0, 1, 1, -2));
    due.none("shaft 1 of one room", x.house(0, 0, 1, 1, 1));
    due.none("shaft 4 of four rooms", x.house(0, 0, 1, 4, 4));
    due.is("count(2)", x.count(2), 0);
    due.is("the first", x.house(0, 0, 6, 4, 3), 0);
    due.is("without a shaft", x.house(19, 2, 1, 1, -1), 1);
    // As it is at first: one act that tells every letter which is not so.
    Due.act(x, "!d=0?1;!u=0?2;!w=0?3;!y=1?4;!g=0?5;!x=1?6;!s=6?7;!r=4?8;!k=0?9;!n=0?10;!l=999?11", 1);
    due.is("codes of the first", x.fails(0, 0), 0);
    due.is("used(0, 0)", x.used(0, 0), 0);
    due.is("codes of the second: x, s, r, k", x.fails(1, 0), 4);
    for (int i = 2; i < 12; i++) due.is("house " + i, x.house(3, 1, 2, 2, 0), i);
    due.none("the thirteenth", x.house(3, 1, 2, 2, 0));
    due.is("count(2)", x.count(2), 12);
  }

  static void build() {
    due.part("promise 8");
    CityBrigade x = new CityBrigade();
    due.no("build(0, ..) without a house", x.build(0, true, 0, 1));
    x.house(0, 0, 1, 1, -1);
    due.no("house -1", x.build(-1, true, 0, 1));
    due.no("house 1", x.build(1, true, 0, 1));
    due.no("wall -1", x.build(0, true, -1, 1));
    due.no("wall 4", x.build(0, true, 4, 1));
    due.no("year 0", x.build(0, true, 0, 0));
    due.no("year 201", x.build(0, true, 0, 201));
    Due.act(x, "d=1?1;w>0?2;y>1?3", 1);
    due.is("refused ones change nothing", x.fails(0, 0), 0);
    due.yes("build(0, true, 3, 200)", x.build(0, true, 3, 200));
    due.is("doors, wall, year", x.fails(0, 0), 3);
    due.yes("build(0, false, 0, 1)", x.build(0, false, 0, 1));
    due.is("back again", x.fails(0, 0), 0);
  }

  static void use() {
    due.part("promise 9");
    CityBrigade x = new CityBrigade();
    due.no("use(0, 1) without a house", x.use(0, 1));
    x.house(0, 0, 1, 1, -1);
    x.house(0, 0, 1, 1, -1);
    due.no("use(0, -1)", x.use(0, -1));
    due.no("use(0, 10)", x.use(0, 10));
    due.no("use(2, 1)", x.use(2, 1));
    due.yes("use(0, 9)", x.use(0, 9));
    due.is("used(0, 0)", x.used(0, 0), 9);
    due.yes("use(0, 0)", x.use(0, 0));
    due.is("used(0, 0)", x.used(0, 0), 0);
    x.look(0);
    due.yes("behind a look", x.use(0, 3));
    x.change(0, 5, 0);
    due.no("behind a change", x.use(0, 4));
    due.yes("of another house", x.use(1, 4));
    due.is("used(0, 0)", x.used(0, 0), 5);
  }

  static void floor() {
    due.part("promise 10");
    CityBrigade x = new CityBrigade();
    due.no("floor(0, 0, 1, 1) without a house", x.floor(0, 0, 1, 1));
    x.house(0, 0, 2, 2, -1);
    due.no("floor -1", x.floor(0, -1, 1, 1));
    due.no("floor 2", x.floor(0, 2, 1, 1));
    due.no("house 1", x.floor(1, 0, 1, 1));
    due.no("stuff -1", x.floor(0, 0, -1, 1));
    due.no("stuff 501", x.floor(0, 0, 501, 1));
    due.no("people -1", x.floor(0, 0, 1, -1));
    due.no("people 21", x.floor(0, 0, 1, 21));
    due.is("room(0, 0, 1)", x.room(0, 0, 1), 0);
    due.is("floored(0, 0, 2)", x.floored(0, 0, 2), 0);
    due.yes("floor(0, 1, 500, 20)", x.floor(0, 1, 500, 20));
    due.is("room 2", x.room(0, 2, 1), 500);
    due.is("room 3", x.room(0, 3, 1), 500);
    due.is("room 1 of the floor below", x.room(0, 1, 1), 0);
    due.is("people", x.floored(0, 1, 2), 20);
    due.yes("floor(0, 1, 7, 2): that then", x.floor(0, 1, 7, 2));
    due.is("room 3", x.room(0, 3, 1), 7);
    due.is("people", x.floored(0, 1, 2), 2);
    x.light(0, 2);
    x.tick(1);
    due.is("room 2 has burnt", x.room(0, 2, 1), 5);
    due.yes("told again", x.floor(0, 1, 100, 2));
    due.is("room 2", x.room(0, 2, 1), 100);
    due.is("its heat stays", x.room(0, 2, 0), 450);
    due.is("BURNT stays", x.floored(0, 1, 0), 2);
    due.yes("nothing left to burn", x.floor(0, 1, 0, 2));
    due.is("burns no more", x.room(0, 2, 2), 0);
  }

  static void light() {
    due.part("promise 11");
    CityBrigade x = new CityBrigade();
    due.no("light(0, 0) without a house", x.light(0, 0));
    x.house(0, 0, 2, 3, -1);
    due.no("room -1", x.light(0, -1));
    due.no("room 6", x.light(0, 6));
    due.no("house 1", x.light(1, 0));
    due.yes("room 5", x.light(0, 5));
    due.is("its heat", x.room(0, 5, 0), 400);
    due.is("without stuff it does not burn", x.room(0, 5, 2), 0);
    x.tick(1);
    due.is("and cools", x.room(0, 5, 0), 390);
    due.yes("again", x.light(0, 5));
    due.is("its heat", x.room(0, 5, 0), 400);
    x.floor(0, 0, 100, 0);
    x.light(0, 0);
    x.tick(2);
    due.is("hotter already", x.room(0, 0, 0), 500);
    due.yes("lit again", x.light(0, 0));
    due.is("no less hot", x.room(0, 0, 0), 500);
  }

  static void asked() {
    due.part("promises 12, 13, 14");
    CityBrigade x = new CityBrigade();
    due.none("room(0, 0, 0)", x.room(0, 0, 0));
    due.none("floored(0, 0, 0)", x.floored(0, 0, 0));
    due.none("housed(0, 0)", x.housed(0, 0));
    x.house(4, 1, 2, 2, 1);
    due.none("room(0, 4, 0)", x.room(0, 4, 0));
    due.none("room(0, -1, 0)", x.room(0, -1, 0));
    due.none("room(0, 0, 3)", x.room(0, 0, 3));
    due.none("room(0, 0, -1)", x.room(0, 0, -1));
    due.none("room(-1, 0, 0)", x.room(-1, 0, 0));
    due.none("floored(0, 2, 0)", x.floored(0, 2, 0));
    due.none("floored(0, -1, 0)", x.floored(0, -1, 0));
    due.none("floored(0, 0, 4)", x.floored(0, 0, 4));
    due.none("floored(0, 0, -1)", x.floored(0, 0, -1));
    due.none("floored(1, 0, 0)", x.floored(1, 0, 0));
    due.none("housed(0, 7)", x.housed(0, 7));
    due.none("housed(0, -1)", x.housed(0, -1));
    due.none("housed(1, 0)", x.housed(1, 0));
    due.none("housed(-1, 0)", x.housed(-1, 0));
    x.floor(0, 0, 100, 3);
    x.floor(0, 1, 100, 4);
    x.light(0, 0);
    x.light(0, 3);
    due.is("burning rooms", x.housed(0, 0), 2);
    x.tick(3);
    // 400, 450, 500 in both: 2 and 2 and 3.
    due.is("BURNT of floor 0", x.floored(0, 0, 0), 7);
    due.is("BURNT of floor 1", x.floored(0, 1, 0), 7);
    due.is("LOAD of floor 1", x.floored(0, 1, 3), 21);
    due.is("LOAD of floor 0", x.floored(0, 0, 3), 0);
    due.is("BURNT in all", x.housed(0, 1), 14);
    for (int what = 2; what <= 6; what++) due.is("housed(0, " + what + ")", x.housed(0, what), 0);
    due.is("fallen", x.floored(0, 1, 1), 0);
  }

  static void gainOnAFloor() {
    due.part("gain on a floor");
    for (int doors = 0; doors < 2; doors++) {
      CityBrigade x = new CityBrigade();
      x.house(0, 2, 1, 4, -1);
      x.build(0, doors == 1, 0, 1);
      x.floor(0, 0, 500, 0);
      x.light(0, 0);
      x.light(0, 2);
      x.tick(1);
      due.is("burns, one apart", x.room(0, 0, 0), 450);
      due.is("between two", x.room(0, 1, 0), doors == 1 ? 50 : 10);
      due.is("burns", x.room(0, 2, 0), 450);
      due.is("next to one", x.room(0, 3, 0), doors == 1 ? 20 : 0);
    }
    CityBrigade y = new CityBrigade();
    y.house(0, 2, 1, 2, -1);
    y.build(0, true, 0, 1);
    y.floor(0, 0, 500, 0);
    y.light(0, 0);
    y.light(0, 1);
    y.tick(1);
    due.is("both burn", y.room(0, 0, 0), 480);
    due.is("both burn", y.room(0, 1, 0), 480);
  }

  static void gainFromFloors() {
    due.part("gain from floors");
    CityBrigade x = new CityBrigade();
    x.house(0, 2, 3, 2, 1);
    for (int f = 0; f < 3; f++) x.floor(0, f, 500, 0);
    x.light(0, 2);
    x.light(0, 3);
    x.tick(1);
    due.is("room 0, below a burning one", x.room(0, 0, 0), 0);
    due.is("room 2 burns, as its neighbour", x.room(0, 2, 0), 460);
    due.is("room 3 burns, as its neighbour", x.room(0, 3, 0), 460);
    due.is("room 4, above a burning one", x.room(0, 4, 0), 10);
    due.is("room 5, in the shaft above a burning one", x.room(0, 5, 0), 50);
    x.light(0, 0);
    x.light(0, 1);
    x.tick(1);
    due.is("room 0: 50, neighbour 10, above 5", x.room(0, 0, 0), 465);
    due.is("room 2: 50, neighbour 10, below 20", x.room(0, 2, 0), 540);
    due.is("room 3: 50, neighbour 10, shaft 60", x.room(0, 3, 0), 580);
    due.is("room 4: -10 and 20", x.room(0, 4, 0), 20);
    due.is("room 5: -10 and 60", x.room(0, 5, 0), 100);
  }

  static void gainFromBeside() {
    due.part("gain from beside");
    int[][] walls = {{0, 0, 14}, {1, 0, 2}, {1, 1, 0}, {2, 3, 0}};
    for (int[] w : walls) {
      CityBrigade x = new CityBrigade();
      x.house(3, 2, 1, 3, -1);
      x.house(3, 2, 2, 2, -1);
      x.build(0, false, w[0], 1);
      x.build(1, false, w[1], 1);
      x.floor(0, 0, 500, 0);
      x.light(0, 1);
      x.tick(1);
      due.is("walls " + w[0] + " and " + w[1], x.room(1, 0, 0), w[2]);
      due.is("each room of that floor", x.room(1, 1, 0), w[2]);
      due.is("no other floor", x.room(1, 2, 0), 0);
    }
    CityBrigade x = new CityBrigade();
    x.house(3, 2, 1, 3, -1);
    x.house(3, 2, 2, 2, -1);
    x.build(0, false, 3, 1);
    x.build(1, false, 3, 1);
    x.floor(0, 0, 500, 0);
    for (int r = 0; r < 3; r++) x.light(0, r);
    x.light(1, 0);
    x.tick(1);
    due.is("24 by 7, cut, of each of three", x.room(1, 0, 0), 399);
  }

  static void gainFromBesideByNumbers() {
    due.part("beside by numbers");
    CityBrigade x = new CityBrigade();
    x.house(3, 2, 1, 1, -1);
    x.house(4, 2, 1, 1, -1);
    x.house(3, 2, 1, 1, -1);
    x.house(3, 2, 1, 1, -1);
    x.floor(0, 0, 500, 0);
    x.light(0, 0);
    x.tick(1);
    due.is("at another corner", x.room(1, 0, 0), 0);
    due.is("the next one there", x.room(2, 0, 0), 14);
    due.is("one further", x.room(3, 0, 0), 0);
    x.floor(3, 0, 500, 0);
    x.light(3, 0);
    x.tick(1);
    due.is("between two that burn", x.room(2, 0, 0), 52);
  }

  static void heatIsBounded() {
    due.part("heat is bounded");
    CityBrigade x = new CityBrigade();
    x.house(0, 2, 1, 1, -1);
    x.floor(0, 0, 500, 0);
    x.light(0, 0);
    x.tick(12);
    due.is("1000 at last", x.room(0, 0, 0), 1000);
    x.tick(1);
    due.is("no more", x.room(0, 0, 0), 1000);
    // 2 2 3 3 3 3 3 4 4 4 4 4 and 5.
    due.is("BURNT", x.floored(0, 0, 0), 44);
    x.tick(1);
    due.is("five a minute then", x.floored(0, 0, 0), 49);
    x.floor(0, 0, 0, 0);
    x.tick(99);
    due.is("cools by 10", x.room(0, 0, 0), 10);
    x.tick(2);
    due.is("to 0", x.room(0, 0, 0), 0);
  }

  static void burning() {
    due.part("what burns");
    CityBrigade x = new CityBrigade();
    x.house(0, 2, 1, 1, -1);
    x.floor(0, 0, 3, 0);
    x.light(0, 0);
    x.tick(2);
    due.is("only what is there is burnt", x.floored(0, 0, 0), 3);
    due.is("stuff left", x.room(0, 0, 1), 0);
    due.is("it burned as the minute began", x.room(0, 0, 0), 500);
    due.is("burns no more", x.room(0, 0, 2), 0);
    x.tick(20);
    due.is("cools", x.room(0, 0, 0), 300);
    x.floor(0, 0, 9, 0);
    due.is("300 is enough", x.room(0, 0, 2), 1);
    x.floor(0, 0, 0, 0);
    x.tick(1);
    x.floor(0, 0, 9, 0);
    due.is("290 is not", x.room(0, 0, 2), 0);
  }

  static CityBrigade tower(int kind, int floors) {
    CityBrigade x = new CityBrigade();
    x.house(0, kind, floors, 1, -1);
    x.floor(0, 0, 500, 0);
    return x;
  }

  static void floorFalls() {
    due.part("a floor falls");
    CityBrigade x = tower(0, 2);
    x.floor(0, 1, 100, 7);
    x.light(0, 0);
    x.tick(9);
    due.is("BURNT of floor 0", x.floored(0, 0, 0), 27);
    due.is("LOAD 54", x.floored(0, 1, 3), 54);
    due.is("stands", x.floored(0, 1, 1), 0);
    due.is("warmed from below", x.room(0, 1, 0), 90);
    due.is("people", x.floored(0, 1, 2), 7);
    x.tick(1);
    due.is("LOAD 62", x.floored(0, 1, 3), 62);
    due.is("has fallen", x.floored(0, 1, 1), 1);
    due.is("floors fallen", x.housed(0, 4), 1);
    due.is("people on it", x.floored(0, 1, 2), 0);
    due.is("lost", x.housed(0, 3), 7);
    due.is("lost in all", x.count(9), 7);
    due.is("its heat", x.room(0, 1, 0), 0);
    due.is("its stuff", x.room(0, 1, 1), 0);
    due.is("stuff comes down", x.room(0, 0, 1), 500 - 31 + 100);
    due.is("the greater heat", x.room(0, 0, 0), 900);
    due.no("nothing is told of it", x.floor(0, 1, 10, 1));
    due.no("nor is it lit", x.light(0, 1));
    due.is("asked", x.room(0, 1, 2), 0);
    x.tick(1);
    due.is("its heat stays 0", x.room(0, 1, 0), 0);
  }

  static void floorFallsByKinds() {
    due.part("floors fall by kinds");
    // BURNT of floor 0, minute by minute: 2 4 7 10 13 16 19 23 27 31 35 39 44 49 54 59 64 69 74.
    int[][] kinds = {{0, 10, 31}, {1, 15, 54}, {2, 19, 74}};
    for (int[] k : kinds) {
      CityBrigade x = tower(k[0], 2);
      x.light(0, 0);
      x.tick(k[1] - 1);
      due.is("kind " + k[0] + " stands a minute ahead", x.floored(0, 1, 1), 0);
      x.tick(1);
      due.is("kind " + k[0] + " falls", x.floored(0, 1, 1), 1);
      due.is("kind " + k[0] + " BURNT", x.floored(0, 0, 0), k[2]);
    }
    CityBrigade y = new CityBrigade();
    y.house(0, 0, 2, 2, -1);
    y.floor(0, 0, 500, 0);
    y.light(0, 0);
    // Two rooms let it bear 120; room 1 does not burn before it has 300.
    y.tick(16);
    due.is("two rooms: LOAD", y.floored(0, 1, 3), 118);
    due.is("two rooms: stands", y.floored(0, 1, 1), 0);
    y.tick(1);
    due.is("two rooms: falls", y.floored(0, 1, 1), 1);
  }

  static void floorsFallThroughEachOther() {
    due.part("floors fall through each other");
    CityBrigade x = new CityBrigade();
    x.house(0, 0, 3, 1, -1);
    x.floor(0, 0, 0, 5);
    x.floor(0, 1, 500, 3);
    x.floor(0, 2, 50, 2);
    x.light(0, 1);
    // Floor 2 bears BURNT of floor 1 twice: 62 at minute 10. Floor 1: 31 then, and 64 at minute 17.
    x.tick(10);
    due.is("floor 2 has fallen", x.floored(0, 2, 1), 1);
    due.is("floor 1 stands", x.floored(0, 1, 1), 0);
    due.is("with both stuffs", x.room(0, 1, 1), 500 - 31 + 50);
    x.tick(6);
    due.is("floor 1 stands", x.floored(0, 1, 1), 0);
    due.is("LOAD 59", x.floored(0, 1, 3), 59);
    x.tick(1);
    due.is("floor 1 has fallen", x.floored(0, 1, 1), 1);
    due.is("onto floor 0", x.room(0, 0, 1), 550 - 64);
    due.is("which takes its heat", x.room(0, 0, 0), 1000);
    due.is("and burns", x.room(0, 0, 2), 1);
    // Three of floor 1 were lost one by one from minute 4 on, two as floor 2 fell; one of floor 0 now.
    due.is("lost", x.housed(0, 3), 6);
    due.is("floor 0 never falls", x.floored(0, 0, 1), 0);
    x.tick(100);
    due.is("floor 0 never falls", x.floored(0, 0, 1), 0);
    due.is("floors fallen", x.housed(0, 4), 2);
    due.is("all of floor 0 are lost", x.housed(0, 3), 10);
  }

  static void stuffThatFallsIsBounded() {
    due.part("stuff that falls is bounded");
    // Six floors of which 1 to 5 have 500 each; they all come to floor 0 at last, which can have 2,000.
    CityBrigade x = new CityBrigade();
    x.house(0, 0, 6, 1, -1);
    for (int f = 1; f < 6; f++) x.floor(0, f, 500, 0);
    x.floor(0, 0, 500, 0);
    for (int f = 0; f < 6; f++) x.light(0, f);
    // In each minute all six burn alike at first: 2, 4, 7, 10, 13, 16 and 20: three times that is LOAD.
    int before = 0;
    for (int minute = 0; minute < 30 && x.housed(0, 4) < 5; minute++) {
      before = x.floored(0, 0, 0);
      x.tick(1);
    }
    due.is("all five fell", x.housed(0, 4), 5);
    due.is("stuff of floor 0", x.room(0, 0, 1), 2000);
    due.yes("it has burnt by then", before > 0);
  }

  static void fallOntoAFallenFloor() {
    due.part("a fall onto a fallen floor");
    // Floor 1 falls by what burns below it; floor 2 burns by itself later and falls onto where floor 1 was.
    CityBrigade x = new CityBrigade();
    x.house(0, 0, 3, 1, -1);
    x.floor(0, 0, 500, 0);
    x.floor(0, 2, 500, 0);
    x.light(0, 0);
    x.tick(10);
    due.is("floor 1 has fallen", x.floored(0, 1, 1), 1);
    due.is("floor 2 stands", x.floored(0, 2, 1), 0);
    x.light(0, 2);
    x.tick(15);
    due.is("LOAD of floor 2", x.floored(0, 2, 3), 54);
    x.tick(1);
    due.is("LOAD of floor 2", x.floored(0, 2, 3), 59);
    due.is("floor 2 stands", x.floored(0, 2, 1), 0);
    x.tick(1);
    due.is("floor 2 has fallen", x.floored(0, 2, 1), 1);
    due.is("its stuff is on floor 1", x.room(0, 1, 1), 500 - 64);
    due.is("without heat", x.room(0, 1, 0), 0);
    due.is("it does not burn", x.room(0, 1, 2), 0);
    x.tick(1);
    due.is("nor later", x.room(0, 1, 0), 0);
  }

  static void peopleAreLost() {
    due.part("people are lost");
    CityBrigade x = new CityBrigade();
    x.house(0, 2, 2, 2, -1);
    x.floor(0, 0, 500, 5);
    x.floor(0, 1, 0, 5);
    x.light(0, 0);
    x.light(0, 1);
    // 400, 460, 520, 580, 640: two rooms that burn each other by 10.
    x.tick(3);
    due.is("heat 580", x.room(0, 0, 0), 580);
    due.is("nobody yet", x.housed(0, 3), 0);
    x.tick(1);
    due.is("one of each room", x.housed(0, 3), 2);
    due.is("people left", x.floored(0, 0, 2), 3);
    x.tick(2);
    due.is("as long as there are", x.housed(0, 3), 5);
    due.is("none left", x.floored(0, 0, 2), 0);
    due.is("none of floor 1", x.floored(0, 1, 2), 5);
    CityBrigade y = new CityBrigade();
    y.house(0, 2, 1, 1, -1);
    y.floor(0, 0, 500, 5);
    y.light(0, 0);
    y.tick(4);
    due.is("600 is enough", y.housed(0, 3), 1);
    y.floor(0, 0, 0, 4);
    y.tick(1);
    due.is("hot, but it does not burn", y.housed(0, 3), 1);
  }

  static void whatIf() {
    due.part("promise 52");
    CityBrigade x = new CityBrigade();
    due.none("without a house", x.what(0, 0, 0, 1));
    x.house(0, 0, 2, 1, -1);
    x.house(0, 0, 1, 1, -1);
    due.none("room 2", x.what(0, 2, 0, 1));
    due.none("room -1", x.what(0, -1, 0, 1));
    due.none("house 2", x.what(2, 0, 0, 1));
    due.none("gallons -1", x.what(0, 0, -1, 1));
    due.none("gallons 501", x.what(0, 0, 501, 1));
    due.none("n 0", x.what(0, 0, 0, 0));
    due.none("n 201", x.what(0, 0, 0, 201));
    due.is("nothing burns", x.what(0, 0, 0, 200), 0);
    x.floor(0, 0, 500, 4);
    x.floor(1, 0, 500, 4);
    x.light(0, 0);
    due.is("ten minutes", x.what(0, 0, 0, 10), 31);
    due.is("a minute", x.what(0, 0, 0, 1), 2);
    // 500 gallons cool by 125 and it gains 50: 400, 325, 250.
    due.is("with water on it", x.what(0, 0, 500, 200), 4);
    // 203 gallons cool by 50, cut: it stays at 400, two a minute, till the house beside burns, too.
    due.is("with as much as it gains", x.what(0, 0, 203, 22), 44);
    due.is("with water elsewhere", x.what(0, 1, 500, 10), 31);
    // House 1 gains 14 a minute: it burns from minute 22 on, and not ahead of that.
    due.is("the house beside", x.what(1, 0, 0, 22), 0);
    due.is("the house beside burns", x.what(1, 0, 0, 23), 2);
    due.is("all is as it was", x.room(0, 0, 0), 400);
    due.is("all is as it was", x.room(0, 0, 1), 500);
    due.is("no floor fell", x.housed(0, 4), 0);
    due.is("nobody was lost", x.count(9), 0);
    due.is("NOW", x.count(0), 0);
    x.tick(10);
    due.is("it fell", x.floored(0, 1, 1), 1);
    due.is("from then on", x.what(0, 0, 0, 2), 8);
    due.is("a room of a fallen floor", x.what(0, 1, 100, 2), 8);
    due.is("BURNT as it is", x.housed(0, 1), 31);
  }

  static void fullHouses() {
    due.part("full houses");
    CityBrigade x = new CityBrigade();
    for (int h = 0; h < 12; h++) {
      x.house(h, 2, 6, 4, -1);
      for (int f = 0; f < 6; f++) x.floor(h, f, 10 * h + f, f);
    }
    for (int h = 0; h < 12; h++) for (int r = 0; r < 24; r++) due.is("stuff of " + h + ", " + r, x.room(h, r, 1), 10 * h + r / 4);
    x.floor(1, 0, 500, 0);
    x.light(1, 0);
    x.floor(0, 5, 0, 0);
    x.light(0, 20);
    x.light(0, 23);
    due.is("no room of house 0 burns", x.housed(0, 0), 0);
    x.tick(1);
    due.is("the next house is not above this one", x.room(0, 20, 0), 390);
    due.is("nor next to it", x.room(0, 23, 0), 390);
    x.floor(11, 5, 500, 0);
    x.light(11, 23);
    due.is("the last room of the last house", x.housed(11, 0), 1);
    x.tick(1);
    due.is("its heat", x.room(11, 23, 0), 450);
    due.is("its BURNT", x.floored(11, 5, 0), 2);
    due.is("BURNT of the house", x.housed(11, 1), 2);
    due.is("BURNT of the house ahead of it", x.housed(10, 1), 0);
  }

  static void doorsLeadToNoOtherFloor() {
    due.part("doors lead to no other floor");
    CityBrigade x = new CityBrigade();
    x.house(0, 2, 2, 2, -1);
    x.build(0, true, 0, 1);
    x.floor(0, 1, 500, 0);
    x.light(0, 2);
    x.light(0, 1);
    x.tick(1);
    due.is("room 1 is not next to room 2", x.room(0, 1, 0), 390);
    due.is("room 0 is below it", x.room(0, 0, 0), 0);
    CityBrigade y = new CityBrigade();
    y.house(0, 2, 2, 2, -1);
    y.build(0, true, 0, 1);
    y.floor(0, 0, 500, 0);
    y.light(0, 1);
    y.light(0, 2);
    y.tick(1);
    due.is("nor room 2 next to room 1", y.room(0, 2, 0), 390);
  }

  static void besideALowerHouse() {
    due.part("beside a lower house");
    CityBrigade x = new CityBrigade();
    x.house(0, 2, 1, 1, -1);
    x.house(0, 2, 2, 1, -1);
    x.floor(0, 0, 500, 0);
    x.light(0, 0);
    x.light(1, 1);
    x.tick(1);
    due.is("nothing beside floor 1", x.room(1, 1, 0), 390);
  }

  /** Floor 0 burns so much in all, floor 1 a single one, if so: does floor 1 fall? */
  static int falls(int kind, int below, boolean one) {
    CityBrigade x = new CityBrigade();
    x.house(0, kind, 2, 1, -1);
    x.floor(0, 0, below, 0);
    x.light(0, 0);
    if (one) {
      x.floor(0, 1, 1, 0);
      x.light(0, 1);
    }
    x.tick(100);
    due.is("LOAD", x.floored(0, 1, 3), 2 * below + (one ? 1 : 0));
    return x.floored(0, 1, 1);
  }

  static void loadOnTheEdge() {
    due.part("LOAD on the edge");
    int[] loads = {60, 100, 140};
    for (int kind = 0; kind < 3; kind++) {
      due.is("kind " + kind + ", as much as that", falls(kind, loads[kind] / 2, false), 1);
      due.is("kind " + kind + ", one less", falls(kind, loads[kind] / 2 - 1, true), 0);
      due.is("kind " + kind + ", one more", falls(kind, loads[kind] / 2, true), 1);
    }
  }

  static void burningOnTheEdge() {
    due.part("HEAT on the edge");
    // Three rooms beside, both walls 3: 9 a minute, so a room without stuff cools by 1.
    CityBrigade x = new CityBrigade();
    x.house(3, 2, 1, 3, -1);
    x.house(3, 2, 1, 1, -1);
    x.build(0, false, 3, 1);
    x.build(1, false, 3, 1);
    x.floor(0, 0, 500, 0);
    for (int r = 0; r < 3; r++) x.light(0, r);
    x.light(1, 0);
    x.tick(50);
    x.floor(0, 0, 500, 0);
    x.tick(50);
    due.is("HEAT 300", x.room(1, 0, 0), 300);
    x.floor(1, 0, 9, 0);
    due.is("burns", x.room(1, 0, 2), 1);
    x.floor(1, 0, 0, 0);
    x.tick(1);
    due.is("HEAT 299", x.room(1, 0, 0), 299);
    x.floor(1, 0, 9, 0);
    due.is("does not", x.room(1, 0, 2), 0);
  }

  static void whatIfAgain() {
    due.part("promise 52, again");
    CityBrigade x = new CityBrigade();
    x.house(0, 0, 3, 1, -1);
    x.floor(0, 0, 100, 0);
    x.floor(0, 1, 100, 0);
    x.floor(0, 2, 100, 0);
    x.light(0, 0);
    int all = x.what(0, 0, 0, 200);
    // Floor 1 falls and burns below; floor 2 has nothing that burns below it then.
    due.is("all of two floors", all, 200);
    due.is("again", x.what(0, 0, 0, 200), all);
    due.is("with water first", x.what(0, 0, 500, 10), 4);
    due.is("and without it again", x.what(0, 0, 0, 10), 31);
    due.is("nothing has fallen", x.housed(0, 4), 0);
  }
}
