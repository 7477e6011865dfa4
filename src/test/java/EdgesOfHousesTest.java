/** The edges of promises 7 to 14: just within, just beyond, none, all twelve, and nothing changed by what is refused. */
public final class EdgesOfHousesTest {
  static final Due due = new Due();

  public static void main(String[] args) {
    house();
    houseAtFirst();
    twelveHouses();
    twelveFullHouses();
    build();
    use();
    floor();
    floorThatHasFallen();
    light();
    lightByHeat();
    lightThatHasFallen();
    room();
    floored();
    housed();
    due.over();
  }

  static void house() {
    Run.of(due, "promise 7", "house(3, 1, 2, 2, 1) = 0", "floor(0, 0, 50, 1) = true",
        "house(-1, 0, 1, 1, -1) ! -1", "house(20, 0, 1, 1, -1) ! -1", "house(MIN, 0, 1, 1, -1) ! -1", "house(MAX, 0, 1, 1, -1) ! -1",
        "house(0, -1, 1, 1, -1) ! -1", "house(0, 3, 1, 1, -1) ! -1", "house(0, MIN, 1, 1, -1) ! -1", "house(0, MAX, 1, 1, -1) ! -1",
        "house(0, 0, 0, 1, -1) ! -1", "house(0, 0, 7, 1, -1) ! -1", "house(0, 0, MIN, 1, -1) ! -1", "house(0, 0, MAX, 1, -1) ! -1",
        "house(0, 0, 1, 0, -1) ! -1", "house(0, 0, 1, 5, -1) ! -1", "house(0, 0, 1, MIN, -1) ! -1", "house(0, 0, 1, MAX, -1) ! -1",
        "house(0, 0, 1, 1, -2) ! -1", "house(0, 0, 1, 1, 1) ! -1", "house(0, 0, 1, 4, 4) ! -1", "house(0, 0, 1, 3, 3) ! -1", "house(0, 0, 6, 4, 23) ! -1",
        "house(0, 0, 1, 1, MIN) ! -1", "house(0, 0, 1, 1, MAX) ! -1", "house(3, 1, 2, 2, 2) ! -1", "count(2) ! 1",
        "house(0, 0, 1, 1, -1) = 1", "house(19, 2, 6, 4, 3) = 2", "house(19, 2, 6, 4, 0) = 3", "house(0, 0, 1, 1, 0) = 4", "house(0, 2, 1, 4, -1) = 5", "count(2) ! 6");
  }

  // One act that tells all that is not so.
  static void houseAtFirst() {
    Run.of(due, "promise 7, at first", "house(0, 2, 6, 4, 0) = 0", "house(1, 0, 1, 1, -1) = 1", "text !d=0?1;!u=0?2;!w=0?3;!y=1?4;!g=0?5;!n=0?6;!l=999?7;x=0?8",
        "act(1) = 0", "fails(0, 0) ! 0", "fails(1, 0) ! 1", "code(1, 0, 0) ! 8", "used(0, 0) ! 0",
        "room(0, 0, 0) ! 0", "room(0, 23, 0) ! 0", "room(0, 23, 1) ! 0", "room(0, 23, 2) ! 0", "floored(0, 5, 0) ! 0", "floored(0, 5, 1) ! 0", "floored(0, 5, 2) ! 0",
        "floored(0, 5, 3) ! 0", "housed(0, 0) ! 0", "housed(0, 1) ! 0", "housed(0, 2) ! 0", "housed(0, 3) ! 0", "housed(0, 4) ! 0", "housed(0, 5) ! 0", "housed(0, 6) ! 0");
    // An act from year 1 holds for it, one from year 2 does not.
    Run.of(due, "promise 7, YEAR 1 at first", "house(0, 2, 6, 4, 0) = 0", "text 1=1?1", "act(2) = 0", "force(0, 0) ! -1", "text 1=1?1", "act(1) = 1", "force(0, 0) ! 1");
  }

  static void twelveHouses() {
    Run.of(due, "promise 7, twelve", "house(4, 0, 1, 1, -1) * 11", "count(2) = 11", "house(19, 2, 2, 2, 1) = 11",
        "house(0, 0, 1, 1, -1) ! -1", "house(4, 0, 1, 1, -1) ! -1", "count(2) ! 12", "floor(11, 1, 500, 20) = true", "floor(12, 0, 1, 1) ! false",
        "light(11, 3) = true", "light(12, 0) ! false", "room(11, 3, 0) ! 400", "room(12, 0, 0) ! -1", "housed(11, 0) ! 1", "housed(12, 0) ! -1",
        "build(11, true, 3, 200) = true", "build(12, true, 3, 200) ! false", "use(11, 9) = true", "use(12, 9) ! false", "look(11) = true", "look(12) ! false",
        "change(11, 1, 0) = true", "change(12, 1, 0) ! false", "what(11, 3, 0, 1) ! 2", "what(12, 0, 0, 1) ! -1", "used(11, 0) ! 1", "used(12, 0) ! -1");
  }

  // Twelve of 24 rooms each: no room of one is a room of another, or beside it.
  static void twelveFullHouses() {
    java.util.List<String> lines = new java.util.ArrayList<>();
    for (int h = 0; h < 12; h++) {
      lines.add("house(" + h + ", 2, 6, 4, -1) = " + h);
      for (int f = 0; f < 6; f++) lines.add("floor(" + h + ", " + f + ", " + (10 * h + f) + ", " + f + ") = true");
    }
    for (int h = 0; h < 12; h++) for (int r = 0; r < 24; r++) lines.add("room(" + h + ", " + r + ", 1) = " + (10 * h + r / 4));
    Run.of(due, "promise 7, twelve full ones", lines.toArray(new String[0]));
    while (lines.size() > 84) lines.remove(84);
    for (String s : new String[] {"floor(1, 0, 500, 0) = true", "light(1, 0) = true", "floor(0, 5, 0, 0) = true", "light(0, 20) = true", "light(0, 23) = true", "floor(11, 5, 500, 0) = true", "light(11, 23) = true", "floor(10, 5, 0, 0) = true", "light(10, 23) = true", "light(11, 0) = true",
        "floor(11, 0, 0, 0) = true", "housed(0, 0) ! 0", "housed(11, 0) ! 1", "tick(1) = 1", "room(0, 20, 0) ! 390", "room(0, 23, 0) ! 390", "room(1, 0, 0) ! 450", "room(11, 23, 0) ! 450", "room(10, 23, 0) ! 390", "room(11, 0, 0) ! 390", "room(11, 19, 0) ! 0", "housed(11, 1) ! 2", "housed(10, 1) ! 0", "floored(11, 5, 0) ! 2",
        "housed(1, 1) ! 2", "housed(0, 1) ! 0"}) lines.add(s);
    Run.of(due, "promise 7, twelve full ones burn", lines.toArray(new String[0]));
  }

  static void build() {
    // DOORS, WALL and YEAR are seen by an act.
    Run.of(due, "promise 8", "house(0, 0, 1, 2, -1) = 0", "house(1, 0, 1, 2, -1) = 1", "text d=1?1;w=0?2;w=3?3;y=1?4;y=200?5", "act(1) = 0",
        "build(-1, true, 1, 9) ! false", "build(2, true, 1, 9) ! false", "build(MIN, true, 1, 9) ! false", "build(MAX, true, 1, 9) ! false",
        "build(0, true, -1, 9) ! false", "build(0, true, 4, 9) ! false", "build(0, true, MIN, 9) ! false", "build(0, true, MAX, 9) ! false",
        "build(0, true, 1, 0) ! false", "build(0, true, 1, 201) ! false", "build(0, true, 1, MIN) ! false", "build(0, true, 1, MAX) ! false", "build(0, true, 1, -1) ! false",
        "fails(0, 0) ! 2", "code(0, 0, 0) ! 2", "code(0, 0, 1) ! 4",
        // As it is at first: nothing changes.
        "build(0, false, 0, 1) ! true",
        "build(0, true, 3, 200) = true", "fails(0, 0) ! 3", "code(0, 0, 0) ! 1", "code(0, 0, 1) ! 3", "code(0, 0, 2) ! 5", "fails(1, 0) ! 2",
        "build(0, false, 4, 1) ! false", "build(0, false, 0, 201) ! false", "fails(0, 0) ! 3",
        "build(0, false, 0, 1) = true", "fails(0, 0) ! 2", "build(1, false, 1, 2) = true", "fails(1, 0) ! 0");
  }

  static void use() {
    Run.of(due, "promise 9", "house(0, 0, 1, 1, -1) = 0", "house(0, 0, 1, 1, -1) = 1",
        "use(-1, 1) ! false", "use(2, 1) ! false", "use(MIN, 1) ! false", "use(MAX, 1) ! false", "use(0, -1) ! false", "use(0, 10) ! false", "use(0, MIN) ! false", "use(0, MAX) ! false",
        "used(0, 0) ! 0", "use(0, 0) ! true", "use(0, 9) = true", "used(0, 0) ! 9", "used(1, 0) ! 0", "use(0, 8) = true", "used(0, 0) ! 8",
        // A look is no change; a refused change is none.
        "look(0) = true", "use(0, 7) = true", "change(0, 10, 0) ! false", "change(0, 1, 1) ! false", "use(0, 6) = true", "used(0, 0) ! 6",
        "change(0, 6, 0) = true", "use(0, 6) ! false", "use(0, 5) ! false", "use(0, 10) ! false", "used(0, 0) ! 6", "use(1, 5) = true", "used(1, 0) ! 5");
    // USE at first is asked for as known ahead of the change.
    Run.of(due, "promise 9, at first", "house(0, 0, 1, 1, -1) = 0", "use(0, 4) = true", "tick(5) = 5", "change(0, 7, 0) = true", "used(0, 4) ! 4", "used(0, 5) ! 7", "use(0, 3) ! false");
  }

  static void floor() {
    Run.of(due, "promise 10", "house(0, 0, 2, 3, -1) = 0", "floor(0, 1, 40, 4) = true",
        "floor(-1, 0, 1, 1) ! false", "floor(1, 0, 1, 1) ! false", "floor(MIN, 0, 1, 1) ! false", "floor(MAX, 0, 1, 1) ! false",
        "floor(0, -1, 1, 1) ! false", "floor(0, 2, 1, 1) ! false", "floor(0, MIN, 1, 1) ! false", "floor(0, MAX, 1, 1) ! false",
        "floor(0, 1, -1, 1) ! false", "floor(0, 1, 501, 1) ! false", "floor(0, 1, MIN, 1) ! false", "floor(0, 1, MAX, 1) ! false",
        "floor(0, 1, 1, -1) ! false", "floor(0, 1, 1, 21) ! false", "floor(0, 1, 1, MIN) ! false", "floor(0, 1, 1, MAX) ! false",
        "room(0, 3, 1) ! 40", "floored(0, 1, 2) ! 4", "floor(0, 1, 40, 4) ! true",
        "floor(0, 1, 500, 20) = true", "room(0, 2, 1) ! 0", "room(0, 3, 1) ! 500", "room(0, 4, 1) ! 500", "room(0, 5, 1) ! 500", "floored(0, 1, 2) ! 20", "floored(0, 0, 2) ! 0",
        "floor(0, 0, 500, 20) = true", "room(0, 0, 1) ! 500", "room(0, 2, 1) ! 500", "floor(0, 0, 499, 19) = true", "room(0, 2, 1) ! 499", "floored(0, 0, 2) ! 19",
        "floor(0, 0, 0, 0) = true", "room(0, 0, 1) ! 0", "room(0, 2, 1) ! 0", "floored(0, 0, 2) ! 0", "room(0, 3, 1) ! 500",
        "floor(0, 0, 1, 1) = true", "room(0, 1, 1) ! 1", "floored(0, 0, 2) ! 1", "floored(0, 0, 0) ! 0");
  }

  // Of wood, one room: floor 1 falls in minute 10, as BURNT of floor 0 is 31.
  static final String[] FALLEN = {"house(0, 0, 3, 1, -1) = 0", "floor(0, 0, 500, 0) = true", "floor(0, 1, 20, 5) = true", "light(0, 0) = true", "tick(9) = 9",
      "floored(0, 1, 1) ! 0", "floored(0, 1, 2) ! 5"};

  static void floorThatHasFallen() {
    run("promise 10, FALLEN", FALLEN, "floor(0, 1, 20, 6) = true", "tick(1) = 10", "floored(0, 1, 1) ! 1", "housed(0, 3) ! 6",
        "floor(0, 1, 0, 0) ! false", "floor(0, 1, 20, 6) ! false", "floor(0, 1, 500, 20) ! false", "floored(0, 1, 2) ! 0", "room(0, 1, 1) ! 0",
        "floor(0, 2, 30, 2) = true", "floored(0, 2, 2) ! 2", "room(0, 0, 1) ! 489", "floor(0, 0, 7, 1) = true", "room(0, 0, 1) ! 7");
  }

  static void run(String part, String[] first, String... then) {
    String[] all = new String[first.length + then.length];
    System.arraycopy(first, 0, all, 0, first.length);
    System.arraycopy(then, 0, all, first.length, then.length);
    Run.of(due, part, all);
  }

  static void light() {
    Run.of(due, "promise 11", "house(0, 0, 2, 3, -1) = 0", "floor(0, 0, 9, 0) = true",
        "light(-1, 0) ! false", "light(1, 0) ! false", "light(MIN, 0) ! false", "light(MAX, 0) ! false",
        "light(0, -1) ! false", "light(0, 6) ! false", "light(0, MIN) ! false", "light(0, MAX) ! false",
        "light(0, 0) = true", "room(0, 0, 0) ! 400", "room(0, 0, 2) ! 1", "light(0, 0) ! true", "light(0, 5) = true", "room(0, 5, 0) ! 400", "room(0, 5, 2) ! 0", "housed(0, 0) ! 1",
        "room(0, 4, 0) ! 0");
  }

  // A room without stuff loses 10, gains 5 of the room above and 4 (walls 2 and 2) or 6 (walls 1 and 2) of the house beside.
  static void lightByHeat() {
    String[] two = {"house(0, 2, 2, 1, -1) = 0", "house(0, 2, 1, 1, -1) = 1", "build(0, false, 2, 1) = true", "floor(0, 1, 500, 0) = true", "floor(1, 0, 500, 0) = true"};
    run("promise 11, HEAT 399", two, "build(1, false, 2, 1) = true", "light(0, 0) = true", "light(0, 1) = true", "light(1, 0) = true", "tick(1) = 1",
        "room(0, 0, 0) ! 399", "light(0, 0) = true", "room(0, 0, 0) ! 400");
    run("promise 11, HEAT 401", two, "build(1, false, 1, 1) = true", "light(0, 0) = true", "light(0, 1) = true", "light(1, 0) = true", "tick(1) = 1",
        "room(0, 0, 0) ! 401", "light(0, 0) ! true", "room(0, 0, 0) ! 401");
    Run.of(due, "promise 11, HEAT 1,000", "house(0, 2, 1, 1, -1) = 0", "floor(0, 0, 500, 0) = true", "light(0, 0) = true", "tick(12) = 12", "room(0, 0, 0) ! 1000",
        "light(0, 0) ! true", "room(0, 0, 0) ! 1000");
  }

  static void lightThatHasFallen() {
    run("promise 11, FALLEN", FALLEN, "light(0, 1) = true", "room(0, 1, 0) ! 400", "tick(1) = 10", "light(0, 1) ! false", "room(0, 1, 0) ! 0", "room(0, 1, 2) ! 0",
        "light(0, 2) = true", "room(0, 2, 0) ! 400", "light(0, 0) ! true");
  }

  static void room() {
    Run.of(due, "promise 12", "house(0, 0, 6, 4, -1) = 0", "house(0, 0, 1, 1, -1) = 1", "floor(0, 5, 30, 0) = true", "light(0, 23) = true",
        "room(0, 23, 0) ! 400", "room(0, 23, 1) ! 30", "room(0, 23, 2) ! 1", "room(0, 23, 3) ! -1", "room(0, 23, -1) ! -1", "room(0, 23, MIN) ! -1", "room(0, 23, MAX) ! -1",
        "room(0, 24, 0) ! -1", "room(0, -1, 0) ! -1", "room(0, MIN, 0) ! -1", "room(0, MAX, 0) ! -1", "room(-1, 0, 0) ! -1", "room(2, 0, 0) ! -1", "room(MIN, 0, 0) ! -1",
        "room(MAX, 0, 0) ! -1", "room(1, 0, 0) ! 0", "room(1, 1, 0) ! -1", "room(0, 22, 2) ! 0", "room(0, 0, 0) ! 0");
    // Of a floor that has fallen all three are 0.
    run("promise 12, FALLEN", FALLEN, "tick(1) = 10", "room(0, 1, 0) ! 0", "room(0, 1, 1) ! 0", "room(0, 1, 2) ! 0");
  }

  static void floored() {
    Run.of(due, "promise 13", "house(0, 0, 6, 1, -1) = 0", "house(0, 0, 1, 4, -1) = 1", "floor(0, 5, 30, 20) = true", "floor(0, 4, 30, 0) = true", "light(0, 5) = true", "light(0, 4) = true", "tick(1) = 1",
        "floored(0, 5, 0) ! 2", "floored(0, 5, 1) ! 0", "floored(0, 5, 2) ! 20", "floored(0, 5, 3) ! 6", "floored(0, 4, 3) ! 2", "floored(0, 5, 4) ! -1", "floored(0, 5, -1) ! -1",
        "floored(0, 5, MIN) ! -1", "floored(0, 5, MAX) ! -1", "floored(0, 6, 0) ! -1", "floored(0, -1, 0) ! -1", "floored(0, MIN, 0) ! -1", "floored(0, MAX, 0) ! -1",
        "floored(-1, 0, 0) ! -1", "floored(2, 0, 0) ! -1", "floored(MIN, 0, 0) ! -1", "floored(MAX, 0, 0) ! -1", "floored(1, 0, 0) ! 0", "floored(1, 1, 0) ! -1");
    Run.of(due, "promise 13, LOAD of floor 0", "house(0, 2, 2, 1, -1) = 0", "floor(0, 0, 30, 0) = true", "light(0, 0) = true", "tick(2) = 2",
        "floored(0, 0, 0) ! 4", "floored(0, 0, 3) ! 0", "floored(0, 1, 0) ! 0", "floored(0, 1, 3) ! 8");
    run("promise 13, FALLEN", FALLEN, "tick(1) = 10", "floored(0, 0, 1) ! 0", "floored(0, 1, 0) ! 0", "floored(0, 1, 1) ! 1", "floored(0, 1, 2) ! 0", "floored(0, 1, 3) ! 62", "floored(0, 2, 1) ! 0");
  }

  static void housed() {
    Run.of(due, "promise 14", "house(0, 0, 1, 1, -1) = 0", "floor(0, 0, 30, 0) = true", "light(0, 0) = true", "tick(1) = 1", "housed(0, 0) ! 1", "housed(0, 1) ! 2", "housed(0, 2) ! 0",
        "housed(0, 6) ! 0", "housed(0, 7) ! -1", "housed(0, -1) ! -1", "housed(0, MIN) ! -1", "housed(0, MAX) ! -1", "housed(-1, 0) ! -1", "housed(1, 0) ! -1", "housed(MIN, 0) ! -1", "housed(MAX, 0) ! -1");
    run("promise 14, FALLEN", FALLEN, "housed(0, 4) ! 0", "tick(1) = 10", "housed(0, 0) ! 1", "housed(0, 1) ! 31", "housed(0, 3) ! 5", "housed(0, 4) ! 1", "count(9) ! 5");
    // All twenty-four rooms burn, and none behind a minute that takes what is there.
    String[] all = new String[34];
    int n = 0;
    all[n++] = "house(0, 2, 6, 4, -1) = 0";
    for (int f = 0; f < 6; f++) all[n++] = "floor(0, " + f + ", 2, 0) = true";
    for (int r = 0; r < 23; r++) all[n++] = "light(0, " + r + ") = true";
    all[n++] = "housed(0, 0) ! 23";
    all[n++] = "light(0, 23) = true";
    all[n++] = "housed(0, 0) ! 24";
    all[n++] = "tick(1) = 1";
    Run.of(due, "promise 14, all rooms", all);
    all[32] = "tick(1) = 1";
    all[33] = "housed(0, 0) ! 0";
    Run.of(due, "promise 14, no room", all);
  }
}
