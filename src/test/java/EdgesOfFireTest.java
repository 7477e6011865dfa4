/** The edges of how rooms burn and floors fall (terms, ==== 2), and of promise 52, what if. */
public final class EdgesOfFireTest {
  static final Due due = new Due();

  public static void main(String[] args) {
    burns();
    gainOnAFloor();
    gainFromFloors();
    gainFromBeside();
    heatWithin();
    lastHeat();
    whatIsLost();
    waterByFour();
    loadByKinds();
    loadByRooms();
    fallingInOneMinute();
    greaterHeat();
    stuffThatFalls();
    ontoAFallenFloor();
    people();
    whatArguments();
    whatMinutes();
    whatAlone();
    due.over();
  }

  static void burns() {
    // Ten minutes cool by 10 each; then the room above gives 5 and the house beside 4 (walls 2 and 2): 1 less.
    Run.of(due, "HEAT 300 or more", "house(0, 2, 2, 1, -1) = 0", "house(0, 2, 1, 1, -1) = 1", "build(0, false, 2, 1) = true", "build(1, false, 2, 1) = true",
        "light(0, 0) = true", "tick(10) = 10", "room(0, 0, 0) ! 300", "room(0, 0, 2) ! 0", "floor(0, 0, 1, 0) = true", "room(0, 0, 2) ! 1", "housed(0, 0) ! 1",
        "floor(0, 0, 0, 0) = true", "room(0, 0, 2) ! 0", "floor(0, 1, 500, 0) = true", "floor(1, 0, 500, 0) = true", "light(0, 1) = true", "light(1, 0) = true", "tick(1) = 11",
        "room(0, 0, 0) ! 299", "floor(0, 0, 500, 0) = true", "room(0, 0, 2) ! 0", "housed(0, 0) ! 1");
  }

  static void gainOnAFloor() {
    // Room 3 of floor 0 and room 4, the first one of floor 1, are not next to one another.
    Run.of(due, "GAIN, doors shut", "house(0, 2, 2, 4, -1) = 0", "floor(0, 0, 500, 0) = true", "light(0, 3) = true", "light(0, 4) = true", "light(0, 0) = true", "light(0, 1) = true", "tick(1) = 1",
        "room(0, 0, 0) ! 460", "room(0, 1, 0) ! 460", "room(0, 2, 0) ! 10", "room(0, 3, 0) ! 450", "room(0, 4, 0) ! 410", "room(0, 5, 0) ! 10", "room(0, 6, 0) ! 0", "room(0, 7, 0) ! 10");
    Run.of(due, "GAIN, doors open", "house(0, 2, 2, 4, -1) = 0", "build(0, true, 0, 1) = true", "floor(0, 0, 500, 0) = true", "light(0, 3) = true", "light(0, 4) = true", "light(0, 0) = true",
        "light(0, 1) = true", "tick(1) = 1", "room(0, 0, 0) ! 480", "room(0, 1, 0) ! 480", "room(0, 2, 0) ! 50", "room(0, 3, 0) ! 450", "room(0, 4, 0) ! 410", "room(0, 5, 0) ! 10");
    // One room alone has nobody next to it.
    Run.of(due, "GAIN, one room", "house(0, 2, 1, 1, 0) = 0", "build(0, true, 0, 1) = true", "floor(0, 0, 500, 0) = true", "light(0, 0) = true", "tick(1) = 1", "room(0, 0, 0) ! 450");
  }

  static void gainFromFloors() {
    // The shaft is room 0 of each floor: it gains 60 from below, 5 from above; its neighbours 20.
    Run.of(due, "GAIN, shaft 0", "house(0, 2, 3, 2, 0) = 0", "floor(0, 1, 500, 0) = true", "light(0, 2) = true", "light(0, 3) = true", "light(0, 0) = true", "light(0, 1) = true", "light(0, 4) = true",
        "light(0, 5) = true", "tick(1) = 1", "room(0, 0, 0) ! 395", "room(0, 1, 0) ! 395", "room(0, 2, 0) ! 460", "room(0, 3, 0) ! 460", "room(0, 4, 0) ! 450", "room(0, 5, 0) ! 410");
    Run.of(due, "GAIN, shaft 3", "house(0, 2, 6, 4, 3) = 0", "floor(0, 4, 500, 0) = true", "light(0, 16) = true", "light(0, 19) = true", "tick(1) = 1",
        "room(0, 20, 0) ! 10", "room(0, 23, 0) ! 50", "room(0, 12, 0) ! 0", "room(0, 15, 0) ! 0");
    Run.of(due, "GAIN, no shaft", "house(0, 2, 2, 2, -1) = 0", "floor(0, 0, 500, 0) = true", "light(0, 0) = true", "light(0, 1) = true", "tick(1) = 1", "room(0, 2, 0) ! 10", "room(0, 3, 0) ! 10");
    // Two floors above is too far.
    Run.of(due, "GAIN, two floors", "house(0, 2, 3, 1, 0) = 0", "floor(0, 0, 500, 0) = true", "light(0, 0) = true", "light(0, 2) = true", "tick(1) = 1", "room(0, 1, 0) ! 50", "room(0, 2, 0) ! 390");
  }

  static void gainFromBeside() {
    int[] cut = {24, 12, 8, 6, 4, 4, 3};
    for (int one = 0; one <= 3; one++) for (int other = 0; other <= 3; other++) {
      int gain = 3 * cut[one + other] - 10;
      Run.of(due, "GAIN, walls " + one + " and " + other, "house(7, 2, 2, 1, -1) = 0", "house(7, 2, 2, 3, -1) = 1", "build(0, false, " + one + ", 1) = true", "build(1, false, " + other + ", 1) = true",
          "floor(1, 1, 500, 0) = true", "light(1, 3) = true", "light(1, 4) = true", "light(1, 5) = true", "light(0, 1) = true", "tick(1) = 1",
          "room(0, 1, 0) ! " + (400 + gain), "room(0, 0, 0) ! 0");
    }
    // A row of three and one at another corner between: the first and the last are not beside one another.
    Run.of(due, "GAIN, a row", "house(7, 2, 1, 1, -1) = 0", "house(8, 2, 1, 1, -1) = 1", "house(7, 2, 1, 1, -1) = 2", "house(7, 2, 1, 1, -1) = 3", "floor(0, 0, 500, 0) = true", "light(0, 0) = true", "tick(1) = 1",
        "room(1, 0, 0) ! 0", "room(2, 0, 0) ! 14", "room(3, 0, 0) ! 0", "floor(3, 0, 500, 0) = true", "light(3, 0) = true", "tick(1) = 2", "room(2, 0, 0) ! 52", "room(0, 0, 0) ! 500", "room(3, 0, 0) ! 450");
    // A lower house has nothing beside floor 1.
    Run.of(due, "GAIN, a lower house", "house(7, 2, 1, 4, -1) = 0", "house(7, 2, 6, 1, -1) = 1", "floor(0, 0, 500, 0) = true", "light(0, 0) = true", "light(0, 3) = true", "light(1, 1) = true", "light(1, 5) = true", "tick(1) = 1",
        "room(1, 0, 0) ! 38", "room(1, 1, 0) ! 390", "room(1, 5, 0) ! 390");
  }

  static void heatWithin() {
    Run.of(due, "HEAT within 0 .. 1,000", "house(0, 2, 1, 2, -1) = 0", "house(1, 2, 1, 1, -1) = 1", "build(0, true, 0, 1) = true", "light(0, 0) = true", "floor(1, 0, 500, 0) = true", "light(1, 0) = true",
        "tick(11) = 11", "room(1, 0, 0) ! 950", "tick(1) = 12", "room(1, 0, 0) ! 1000", "tick(1) = 13", "room(1, 0, 0) ! 1000", "tick(26) = 39", "room(0, 0, 0) ! 10", "tick(1) = 40", "room(0, 0, 0) ! 0",
        // It stayed at 0 and did not sink: a burning neighbour gives 30, less 10.
        "tick(5) = 45", "floor(0, 0, 500, 0) = true", "light(0, 0) = true", "tick(1) = 46", "room(0, 1, 0) ! 20");
    // 990 and 50 is 1,000; 1,000 less 10 is 990.
    Run.of(due, "HEAT 990", "house(0, 2, 1, 1, -1) = 0", "floor(0, 0, 500, 0) = true", "light(0, 0) = true", "tick(12) = 12", "floor(0, 0, 0, 0) = true", "tick(1) = 13", "room(0, 0, 0) ! 990",
        "floor(0, 0, 500, 0) = true", "tick(1) = 14", "room(0, 0, 0) ! 1000");
  }

  // 36 gallons by 4 make 441 of 400, 40 make 440: less 10 a minute it comes to 1, or to 0, and is 0 then.
  static void lastHeat() {
    for (int gallons : new int[] {36, 40, 4 * 42}) {
      int heat = 450 - gallons / 4;
      Run.of(due, "the last HEAT of " + heat, "main(2000) = 0", "head(0, 0) = 0", "house(0, 2, 1, 1, -1) = 0", "floor(0, 0, 500, 0) = true", "light(0, 0) = true", "crew(0, 0, false, 100, 1) = 0", "gear(0, 100, " + gallons + ", 0) = true", "text 1=1?p1", "orders() = 0", "call(0) = 0", "tick(1) = 1", "room(0, 0, 0) ! " + heat, "floor(0, 0, 0, 0) = true",
          "tick(" + heat / 10 + ") = " + (heat / 10 + 1), "room(0, 0, 0) ! " + heat % 10, "tick(1) = " + (heat / 10 + 2), "room(0, 0, 0) ! 0", "tick(1) = " + (heat / 10 + 3), "room(0, 0, 0) ! 0");
    }
  }

  static void whatIsLost() {
    // 4 gallons make 1 less, 3 none: what comes to 499 burns 2, what comes to 500 burns 3; and so on at 750 and 1,000.
    String[] room = {"house(0, 2, 1, 1, -1) = 0", "floor(0, 0, 500, 0) = true", "light(0, 0) = true"};
    String[] lines = {room[0], room[1], room[2], "what(0, 0, 0, 1) ! 2", "tick(1) = 1", "room(0, 0, 1) ! 498", "what(0, 0, 4, 2) ! 4", "what(0, 0, 3, 2) ! 5",
        "tick(5) = 6", "room(0, 0, 0) ! 700", "what(0, 0, 4, 2) ! 6", "what(0, 0, 3, 2) ! 7", "tick(5) = 11", "room(0, 0, 0) ! 950", "what(0, 0, 4, 2) ! 8", "what(0, 0, 3, 2) ! 9",
        "what(0, 0, 0, 3) ! 14", "tick(1) = 12", "floored(0, 0, 0) ! 39", "tick(1) = 13", "floored(0, 0, 0) ! 44"};
    Run.of(due, "STUFF that is lost", lines);
    // What is there at most: 2 of 1, 3 of 2; 300 burns 2.
    Run.of(due, "STUFF 1", "house(0, 2, 1, 1, -1) = 0", "floor(0, 0, 1, 0) = true", "light(0, 0) = true", "tick(1) = 1", "room(0, 0, 1) ! 0", "floored(0, 0, 0) ! 1", "room(0, 0, 0) ! 450", "room(0, 0, 2) ! 0",
        "tick(1) = 2", "room(0, 0, 0) ! 440", "floored(0, 0, 0) ! 1");
    Run.of(due, "STUFF 2", "house(0, 2, 1, 1, -1) = 0", "floor(0, 0, 2, 0) = true", "light(0, 0) = true", "tick(1) = 1", "room(0, 0, 1) ! 0", "floored(0, 0, 0) ! 2");
    Run.of(due, "STUFF 3", "house(0, 2, 1, 1, -1) = 0", "floor(0, 0, 3, 0) = true", "light(0, 0) = true", "tick(1) = 1", "room(0, 0, 1) ! 1", "room(0, 0, 2) ! 1", "tick(1) = 2", "floored(0, 0, 0) ! 3", "room(0, 0, 0) ! 500");
    Run.of(due, "HEAT 300 burns 2", "house(0, 2, 1, 1, -1) = 0", "light(0, 0) = true", "tick(10) = 10", "floor(0, 0, 9, 0) = true", "tick(1) = 11", "floored(0, 0, 0) ! 2", "room(0, 0, 0) ! 350");
    // A room that only comes to 300 in a minute did not burn as it began.
    Run.of(due, "what did not burn as it began", "house(0, 2, 1, 2, -1) = 0", "build(0, true, 0, 1) = true", "floor(0, 0, 500, 0) = true", "light(0, 0) = true", "tick(15) = 15", "room(0, 1, 0) ! 300", "room(0, 1, 2) ! 1",
        "room(0, 1, 1) ! 500", "tick(1) = 16", "room(0, 1, 1) ! 498", "room(0, 1, 0) ! 380");
  }

  static void waterByFour() {
    // From 350 on (behind ten minutes without stuff and one with it): how much burns in two minutes tells HEAT between.
    int[][] gallons = {{0, 4}, {3, 4}, {4, 4}, {203, 4}, {500, 4}};
    for (int[] g : gallons) {
      Run.of(due, "WATER by 4, cut", "house(0, 2, 1, 1, -1) = 0", "light(0, 0) = true", "tick(10) = 10", "floor(0, 0, 500, 0) = true", "tick(1) = 11", "room(0, 0, 0) ! 350",
          "what(0, 0, " + g[0] + ", 2) ! " + (g[0] == 500 ? 2 : g[1]));
    }
    // 350, 350 and so on with 203 gallons (50 less); 349, 348, .. with 204: below 300 behind 51 minutes.
    Run.of(due, "WATER by 4, cut, for long", "house(0, 2, 1, 1, -1) = 0", "light(0, 0) = true", "tick(10) = 10", "floor(0, 0, 500, 0) = true", "tick(1) = 11",
        "what(0, 0, 203, 200) ! 400", "what(0, 0, 204, 200) ! 102", "what(0, 0, 204, 50) ! 100", "what(0, 0, 204, 51) ! 102", "what(0, 0, 207, 200) ! 102", "what(0, 0, 208, 200) ! 52");
  }

  /** What burns below, and what burns on the floor itself: LOAD is twice the first and the second. */
  static void load(String name, int kind, int rooms, int below, int own, boolean falls) {
    String[] lines = new String[8 + 2 * rooms];
    int n = 0;
    lines[n++] = "house(0, " + kind + ", 2, " + rooms + ", -1) = 0";
    lines[n++] = "floor(0, 0, " + below + ", 0) = true";
    lines[n++] = "floor(0, 1, " + own + ", 0) = true";
    for (int r = 0; r < 2 * rooms; r++) lines[n++] = "light(0, " + r + ") = true";
    lines[n++] = "tick(150) = 150";
    lines[n++] = "floored(0, 1, 1) ! " + (falls ? 1 : 0);
    lines[n++] = "housed(0, 4) ! " + (falls ? 1 : 0);
    lines[n++] = "housed(0, 0) ! 0";
    lines[n++] = falls ? "floored(0, 0, 1) ! 0" : "floored(0, 1, 3) ! " + rooms * (2 * below + own);
    Run.of(due, name, lines);
  }

  static void loadByKinds() {
    int[] least = {60, 100, 140};
    for (int kind = 0; kind < 3; kind++) {
      load("LOAD, one less, kind " + kind, kind, 1, least[kind] / 2 - 1, 1, false);
      load("LOAD, as much, kind " + kind, kind, 1, least[kind] / 2 - 1, 2, true);
      load("LOAD by what is below, kind " + kind, kind, 1, least[kind] / 2, 0, true);
      load("LOAD by the floor itself, kind " + kind, kind, 1, 0, least[kind], true);
      load("LOAD by the floor itself, one less, kind " + kind, kind, 1, 0, least[kind] - 1, false);
    }
  }

  static void loadByRooms() {
    int[] least = {60, 100, 140};
    for (int kind = 0; kind < 3; kind++) for (int rooms = 2; rooms <= 4; rooms++) {
      load("LOAD of " + rooms + " rooms, kind " + kind, kind, rooms, least[kind] / 2, 0, true);
      load("LOAD of " + rooms + " rooms, less, kind " + kind, kind, rooms, least[kind] / 2 - 1, 1, false);
    }
  }

  // Iron, three floors, all lit: HEAT of floor 0 gains 55, of floor 1 75, of floor 2 70 a minute.
  // BURNT behind minute 12: 40, 45, 44 (LOAD 125 and 134); behind minute 13: 45, 50, 49 (LOAD 140 and 149): both fall.
  static void fallingInOneMinute() {
    Run.of(due, "from the highest down", "house(0, 2, 3, 1, -1) = 0", "floor(0, 0, 100, 0) = true", "floor(0, 1, 100, 0) = true", "floor(0, 2, 100, 0) = true", "light(0, 0) = true", "light(0, 1) = true", "light(0, 2) = true",
        "tick(12) = 12", "floored(0, 1, 3) ! 125", "floored(0, 2, 3) ! 134", "housed(0, 4) ! 0", "floor(0, 1, 55, 4) = true", "floor(0, 2, 56, 3) = true", "tick(1) = 13",
        "floored(0, 1, 3) ! 140", "floored(0, 2, 3) ! 149", "housed(0, 4) ! 2", "room(0, 2, 1) ! 0", "room(0, 1, 1) ! 0", "room(0, 0, 1) ! 156", "room(0, 0, 0) ! 1000", "housed(0, 3) ! 7", "housed(0, 0) ! 1");
  }

  static void greaterHeat() {
    // Floor 0 is lit a second time as it is cooler than floor 1, which falls by what burnt on it.
    Run.of(due, "the greater HEAT is above", "house(0, 0, 2, 1, -1) = 0", "floor(0, 1, 500, 0) = true", "light(0, 1) = true", "tick(16) = 16", "floored(0, 1, 3) ! 59", "light(0, 0) = true", "tick(1) = 17",
        "floored(0, 1, 1) ! 1", "room(0, 0, 0) ! 1000", "room(0, 0, 1) ! 436", "room(0, 0, 2) ! 1");
    Run.of(due, "the greater HEAT is below", "house(0, 0, 2, 1, -1) = 0", "floor(0, 0, 500, 0) = true", "floor(0, 1, 40, 0) = true", "light(0, 0) = true", "tick(9) = 9", "room(0, 1, 0) ! 90", "tick(1) = 10",
        "floored(0, 1, 1) ! 1", "room(0, 0, 0) ! 900", "room(0, 0, 1) ! 509");
  }

  // Six floors of wood and one room, all lit: what is told just ahead of the falls is what comes down.
  static void stuffThatFalls() {
    // Minutes 1 to 6 burn 2, 2, 3, 3, 3 and 3 or 4; in the seventh LOAD of the floors 2 to 5 is above 60, and 59 of floor 1.
    String[] six = {"house(0, 0, 6, 1, -1) = 0", "floor(0, 0, 500, 0) = true", "floor(0, 1, 500, 0) = true", "floor(0, 2, 500, 0) = true", "floor(0, 3, 500, 0) = true", "floor(0, 4, 500, 0) = true", "floor(0, 5, 500, 0) = true",
        "light(0, 0) = true", "light(0, 1) = true", "light(0, 2) = true", "light(0, 3) = true", "light(0, 4) = true", "light(0, 5) = true", "tick(6) = 6", "housed(0, 4) ! 0"};
    // Floor 1 burns 4 in minute 7, each floor above it 4, too.
    EdgesOfFireTest.run("2,000 and more", six, "tick(1) = 7", "housed(0, 4) ! 4", "floored(0, 1, 1) ! 0", "room(0, 1, 1) ! 2000", "room(0, 0, 1) ! 481", "tick(1) = 8", "housed(0, 4) ! 5", "room(0, 0, 1) ! 2000", "room(0, 1, 1) ! 0");
    int[][] told = {{404, 404, 404, 404, 404, 2000}, {404, 404, 404, 404, 403, 1999}, {405, 404, 404, 404, 404, 2000}, {404, 404, 404, 404, 300, 1896}};
    for (int[] t : told) {
      EdgesOfFireTest.run("2,000 at most: " + t[5], six, "floor(0, 1, " + t[0] + ", 0) = true", "floor(0, 2, " + t[1] + ", 0) = true", "floor(0, 3, " + t[2] + ", 0) = true", "floor(0, 4, " + t[3] + ", 0) = true",
          "floor(0, 5, " + t[4] + ", 0) = true", "tick(1) = 7", "housed(0, 4) ! 4", "room(0, 1, 1) ! " + t[5], "room(0, 2, 1) ! 0", "room(0, 5, 1) ! 0");
    }
  }

  static void run(String part, String[] first, String... then) {
    String[] all = new String[first.length + then.length];
    System.arraycopy(first, 0, all, 0, first.length);
    System.arraycopy(then, 0, all, first.length, then.length);
    Run.of(due, part, all);
  }

  static void ontoAFallenFloor() {
    Run.of(due, "onto a floor that has FALLEN", "house(0, 0, 3, 1, -1) = 0", "floor(0, 0, 500, 0) = true", "floor(0, 2, 500, 0) = true", "light(0, 0) = true", "tick(10) = 10", "floored(0, 1, 1) ! 1", "floored(0, 2, 1) ! 0",
        "light(0, 2) = true", "tick(16) = 26", "floored(0, 2, 3) ! 59", "floored(0, 2, 1) ! 0", "tick(1) = 27", "floored(0, 2, 1) ! 1", "room(0, 1, 1) ! 436", "room(0, 1, 0) ! 0", "room(0, 1, 2) ! 0", "housed(0, 4) ! 2",
        "tick(1) = 28", "room(0, 1, 0) ! 0", "room(0, 1, 1) ! 436", "floored(0, 1, 0) ! 0");
  }

  static void people() {
    // 400, 450, 500, 550, 600: one in minute 4, and one more each minute, as long as there are.
    Run.of(due, "PEOPLE at 600", "house(0, 2, 1, 1, -1) = 0", "floor(0, 0, 500, 2) = true", "light(0, 0) = true", "tick(3) = 3", "room(0, 0, 0) ! 550", "housed(0, 3) ! 0", "tick(1) = 4", "housed(0, 3) ! 1", "floored(0, 0, 2) ! 1",
        "tick(1) = 5", "housed(0, 3) ! 2", "floored(0, 0, 2) ! 0", "tick(1) = 6", "housed(0, 3) ! 2", "count(9) ! 2");
    // Hot without stuff: nobody. Stuff that is used up in that very minute: it does not burn then.
    Run.of(due, "PEOPLE where it does not burn", "house(0, 2, 1, 1, -1) = 0", "floor(0, 0, 500, 9) = true", "light(0, 0) = true", "tick(3) = 3", "floor(0, 0, 3, 9) = true", "tick(1) = 4", "room(0, 0, 0) ! 600", "housed(0, 3) ! 0", "floored(0, 0, 2) ! 9");
    Run.of(due, "PEOPLE where one is left to burn", "house(0, 2, 1, 1, -1) = 0", "floor(0, 0, 500, 9) = true", "light(0, 0) = true", "tick(3) = 3", "floor(0, 0, 4, 9) = true", "tick(1) = 4", "room(0, 0, 0) ! 600", "housed(0, 3) ! 1");
    // 4 rooms of 600 and three people; those of another floor are not asked.
    Run.of(due, "PEOPLE, one for each room", "house(0, 2, 2, 4, -1) = 0", "floor(0, 0, 500, 3) = true", "floor(0, 1, 0, 20) = true", "light(0, 0) = true", "light(0, 1) = true", "light(0, 2) = true", "light(0, 3) = true",
        "tick(3) = 3", "housed(0, 3) ! 2", "tick(1) = 4", "housed(0, 3) ! 3", "floored(0, 0, 2) ! 0", "floored(0, 1, 2) ! 20");
    // A floor that falls onto another makes it burn: its people are lost in that very minute, as it is then.
    Run.of(due, "PEOPLE below a floor that falls", "house(0, 0, 2, 1, -1) = 0", "floor(0, 0, 0, 5) = true", "floor(0, 1, 500, 0) = true", "light(0, 1) = true", "tick(16) = 16", "housed(0, 3) ! 0", "tick(1) = 17", "floored(0, 1, 1) ! 1",
        "housed(0, 3) ! 1", "floored(0, 0, 2) ! 4");
  }

  static void whatArguments() {
    Run.of(due, "promise 52", "house(0, 2, 2, 2, -1) = 0", "house(3, 2, 1, 1, -1) = 1", "floor(0, 1, 500, 3) = true", "light(0, 3) = true",
        "what(0, 3, 0, 1) ! 2", "what(0, 0, 0, 1) ! 2", "what(0, 4, 0, 1) ! -1", "what(0, -1, 0, 1) ! -1", "what(0, MIN, 0, 1) ! -1", "what(0, MAX, 0, 1) ! -1",
        "what(-1, 0, 0, 1) ! -1", "what(2, 0, 0, 1) ! -1", "what(MIN, 0, 0, 1) ! -1", "what(MAX, 0, 0, 1) ! -1", "what(1, 0, 0, 200) ! 0", "what(1, 1, 0, 1) ! -1",
        "what(0, 3, -1, 1) ! -1", "what(0, 3, 501, 1) ! -1", "what(0, 3, MIN, 1) ! -1", "what(0, 3, MAX, 1) ! -1", "what(0, 3, 500, 1) ! 2",
        "what(0, 3, 0, 0) ! -1", "what(0, 3, 0, 201) ! -1", "what(0, 3, 0, -1) ! -1", "what(0, 3, 0, MIN) ! -1", "what(0, 3, 0, MAX) ! -1");
  }

  static void whatMinutes() {
    // 39 behind twelve minutes, five a minute then: 500 are burnt behind 105.
    Run.of(due, "promise 52, minutes", "house(0, 2, 1, 1, -1) = 0", "floor(0, 0, 500, 0) = true", "what(0, 0, 0, 200) ! 0", "light(0, 0) = true",
        "what(0, 0, 0, 12) ! 39", "what(0, 0, 0, 13) ! 44", "what(0, 0, 0, 104) ! 499", "what(0, 0, 0, 105) ! 500", "what(0, 0, 0, 200) ! 500",
        // 125 less and 50 more: 400, 325, 250.
        "what(0, 0, 500, 1) ! 2", "what(0, 0, 500, 2) ! 4", "what(0, 0, 500, 200) ! 4", "tick(12) = 12", "what(0, 0, 0, 1) ! 5", "housed(0, 1) ! 39");
    // A floor falls in the copy alone, and burns below: 100 and 100, and 50 that nothing heats behind it.
    Run.of(due, "promise 52, floors", "house(0, 0, 3, 1, -1) = 0", "floor(0, 0, 100, 1) = true", "floor(0, 1, 100, 1) = true", "floor(0, 2, 50, 1) = true", "light(0, 0) = true", "what(0, 0, 0, 200) ! 200", "housed(0, 4) ! 0", "housed(0, 3) ! 0");
  }

  // A pump at work puts 10 gallons on it in the city, and none in the copy; water put on a room makes another house burn less, too.
  static void whatAlone() {
    Run.of(due, "promise 52, nobody else", "main(100) = 0", "head(0, 0) = 0", "house(0, 2, 1, 1, -1) = 0", "house(0, 2, 1, 1, -1) = 1", "floor(0, 0, 500, 9) = true", "floor(1, 0, 500, 9) = true", "crew(0, 0, false, 100, 1) = 0",
        "gear(0, 100, 400, 0) = true", "text 1=1?p1", "orders() = 0", "light(0, 0) = true", "call(0) = 0", "tick(1) = 1", "room(0, 0, 0) ! 425", "about(0, 8) ! 100",
        // 425, 475, 525: 2, 2, 3.
        "what(0, 0, 0, 3) ! 7", "what(1, 0, 0, 21) ! 0", "what(1, 0, 0, 22) ! 2", "what(0, 0, 500, 200) ! 4",
        "housed(0, 6) ! 100", "count(0) ! 1", "count(9) ! 0");
  }
}
