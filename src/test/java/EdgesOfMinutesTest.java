import java.util.ArrayList;
import java.util.Arrays;
import java.util.List;

/** The edges of promise 33 and of how a minute goes (terms, ==== 5). */
public final class EdgesOfMinutesTest {
  static final Due due = new Due();

  public static void main(String[] args) {
    tick();
    tickUpTo20000();
    thereAtThatMinute();
    falseOrOut();
    closedInOneMinute();
    theMostRooms();
    goingOver();
    ladders();
    withoutWater();
    noRoomWithinReach();
    waterOfThisMinute();
    chief();
    chiefFirstOrLast();
    pressure();
    mains();
    leaving();
    leavingLetters();
    peopleBelow600();
    outOrNot();
    turningHome();
    hurt();
    tired();
    due.over();
  }

  static void run(String part, List<String> first, String... then) {
    List<String> all = new ArrayList<>(first);
    all.addAll(Arrays.asList(then));
    Run.of(due, part, all.toArray(new String[0]));
  }

  static void tick() {
    Run.of(due, "promise 33", "tick(0) ! 0", "tick(-1) ! -1", "tick(301) ! -1", "tick(MIN) ! -1", "tick(MAX) ! -1", "tick(1) = 1", "tick(299) = 300", "tick(300) = 600", "tick(301) ! -1", "tick(-1) ! -1", "tick(0) ! 600", "tick(MAX) ! -1", "tick(MIN) ! -1", "count(0) ! 600");
    // None of the minutes goes by if one of them may not: a room that burns stays as it is.
    Run.of(due, "promise 33, refused", "house(0, 2, 1, 1, -1) = 0", "floor(0, 0, 500, 9) = true", "crew(0, 0, false, 100, 1) = 0", "light(0, 0) = true", "tick(301) ! -1", "tick(-1) ! -1", "tick(0) ! 0", "room(0, 0, 0) ! 400");
  }

  static void tickUpTo20000() {
    run("promise 33, 20,000", List.of("tick(300) * 66", "count(0) = 19800", "house(0, 2, 1, 1, -1) = 0", "floor(0, 0, 500, 0) = true", "light(0, 0) = true"), "tick(201) ! -1", "tick(300) ! -1", "tick(200) = 20000", "tick(1) ! -1", "tick(300) ! -1", "tick(0) ! 20000", "count(0) ! 20000",
        "look(0) = true", "used(0, 20000) ! 0", "used(0, 20001) ! -1", "change(0, 3, 20000) = true", "change(0, 3, 20001) ! false", "come(0, 0, 20001, 100) ! 20001");
    run("promise 33, 19,999", List.of("tick(300) * 66", "tick(199) = 19999"), "tick(2) ! -1", "tick(0) ! 19999", "tick(1) = 20000", "tick(1) ! -1");
  }

  static void thereAtThatMinute() {
    Run.of(due, "NOW or ahead of it", "street(0, 1, 5) = 0", "house(1, 2, 1, 1, -1) = 0", "floor(0, 0, 500, 0) = true", "crew(0, 0, false, 100, 1) = 0", "crew(3, 1, false, 100, 1) = 1", "text 1=1?p1c1", "orders() = 0", "light(0, 0) = true", "call(1) = 0", "about(0, 2) ! 5", "about(1, 2) ! 0",
        // Who is there at once is at WORK from the next MINUTE on.
        "about(1, 0) ! 1", "tick(1) = 1", "about(1, 0) ! 2", "about(0, 0) ! 1", "tick(3) = 4", "about(0, 0) ! 1", "tick(1) = 5", "about(0, 0) ! 2", "about(0, 2) ! -1");
    Run.of(due, "NOW or ahead of it, on a WAY", "street(0, 1, 5) = 0", "crew(0, 0, false, 100, 1) = 0", "text 1=1?p1", "orders() = 0", "call(1) = 0", "tick(5) = 5", "about(0, 0) ! 3", "about(0, 2) ! 10", "tick(4) = 9", "about(0, 0) ! 3", "tick(1) = 10", "about(0, 0) ! 0", "about(0, 1) ! 0", "about(0, 2) ! -1");
  }

  // The pump is there in five minutes.
  static final List<String> FIVE = List.of("street(0, 1, 5) = 0", "crew(0, 0, false, 100, 1) = 0", "text 1=1?p1", "orders() = 0", "house(1, 2, 1, 1, -1) = 0", "house(2, 2, 1, 1, -1) = 1");

  static void falseOrOut() {
    run("FALSE: nothing ever burned", FIVE, "call(1) = 0", "tick(4) = 4", "called(0, 2) ! 0", "tick(1) = 5", "called(0, 2) ! 2", "called(0, 4) ! 5", "count(6) ! 1", "about(0, 0) ! 3");
    run("OUT: burned as the first WORD came", FIVE, "floor(0, 0, 1, 0) = true", "light(0, 0) = true", "call(1) = 0", "tick(5) = 5", "called(0, 2) ! 1", "called(0, 4) ! 5", "count(6) ! 0");
    run("FALSE: burned ahead of the first WORD", FIVE, "floor(0, 0, 1, 0) = true", "light(0, 0) = true", "tick(1) = 1", "housed(0, 0) ! 0", "call(1) = 0", "tick(5) = 6", "called(0, 2) ! 2");
    run("FALSE: told of ahead of the first WORD", FIVE, "floor(0, 0, 1, 0) = true", "light(0, 0) = true", "floor(0, 0, 0, 0) = true", "call(1) = 0", "tick(5) = 5", "called(0, 2) ! 2");
    run("OUT: behind a LIGHTING", FIVE, "floor(0, 0, 1, 0) = true", "call(1) = 0", "light(0, 0) = true", "floor(0, 0, 0, 0) = true", "tick(5) = 5", "called(0, 2) ! 1");
    run("OUT: behind a LIGHTING, burnt out in a minute", FIVE, "floor(0, 0, 1, 0) = true", "call(1) = 0", "light(0, 0) = true", "tick(5) = 5", "called(0, 2) ! 1");
    run("FALSE: a LIGHTING of what has no stuff", FIVE, "call(1) = 0", "light(0, 0) = true", "tick(5) = 5", "called(0, 2) ! 2");
    run("OUT: behind a telling", FIVE, "light(0, 0) = true", "call(1) = 0", "floor(0, 0, 1, 0) = true", "floor(0, 0, 0, 0) = true", "tick(5) = 5", "called(0, 2) ! 1");
    run("OUT: a telling at 300", FIVE, "light(0, 0) = true", "tick(10) = 10", "call(1) = 0", "room(0, 0, 0) ! 300", "floor(0, 0, 1, 0) = true", "floor(0, 0, 0, 0) = true", "tick(5) = 15", "called(0, 2) ! 1");
    run("FALSE: a telling at 290", FIVE, "light(0, 0) = true", "tick(11) = 11", "call(1) = 0", "floor(0, 0, 1, 0) = true", "floor(0, 0, 0, 0) = true", "tick(5) = 16", "called(0, 2) ! 2");
    run("FALSE: a refused LIGHTING and a refused telling", FIVE, "call(1) = 0", "light(0, 1) ! false", "floor(0, 0, 501, 0) ! false", "tick(5) = 5", "called(0, 2) ! 2");
    run("FALSE: another corner burned", FIVE, "floor(1, 0, 500, 0) = true", "call(1) = 0", "light(1, 0) = true", "tick(5) = 5", "called(0, 2) ! 2");
    run("OUT: a house that came behind the WORD", FIVE, "call(1) = 0", "house(1, 2, 1, 1, -1) = 2", "floor(2, 0, 1, 0) = true", "light(2, 0) = true", "tick(5) = 5", "called(0, 2) ! 1");
    run("OUT: burned between the first WORD and the second", FIVE, "floor(0, 0, 1, 0) = true", "call(1) = 0", "light(0, 0) = true", "tick(1) = 1", "call(1) = 0", "tick(4) = 5", "called(0, 2) ! 1");
    // One CALL at each of two corners: each by its own.
    run("each CALL by its corner", FIVE, "crew(0, 2, false, 100, 1) = 1", "floor(0, 0, 1, 0) = true", "call(1) = 0", "call(2) = 1", "light(0, 0) = true", "tick(1) = 1", "called(1, 2) ! 2", "tick(4) = 5", "called(0, 2) ! 1");
  }

  // Two are there in one minute: the first one closes the CALL, the second one finds it CLOSED.
  static void closedInOneMinute() {
    Run.of(due, "CLOSED once", "crew(0, 1, false, 100, 1) = 0", "crew(0, 1, false, 100, 1) = 1", "text w=1?p2", "orders() = 0", "call(1) = 0", "tick(1) = 1", "called(0, 2) ! 2", "called(0, 4) ! 1", "about(0, 0) ! 0", "about(1, 0) ! 0", "count(6) ! 1", "tick(1) = 2", "called(0, 4) ! 1");
    // The second one comes later, to a CALL that is CLOSED, as the house burns again, and another CALL is OPEN there.
    Run.of(due, "CLOSED, and it burns", "street(0, 1, 5) = 0", "crew(0, 1, false, 100, 1) = 0", "crew(0, 0, false, 100, 1) = 1", "text w=1?p2", "orders() = 0", "house(1, 2, 1, 1, -1) = 0", "floor(0, 0, 500, 0) = true", "call(1) = 0", "tick(1) = 1", "called(0, 2) ! 2", "light(0, 0) = true", "call(1) = 1", "about(0, 3) ! 1", "tick(4) = 5",
        "about(0, 0) ! 2", "about(1, 0) ! 3", "about(1, 3) ! 0", "about(1, 2) ! 10", "called(1, 2) ! 0");
    // One at WORK, all is put out between the minutes, and another one is there: the CALL is CLOSED as OUT, both turn home.
    Run.of(due, "CLOSED as one comes", "street(0, 1, 5) = 0", "crew(0, 1, false, 100, 1) = 0", "crew(0, 0, false, 100, 1) = 1", "text w=1?p2", "orders() = 0", "house(1, 2, 1, 1, -1) = 0", "floor(0, 0, 500, 0) = true", "light(0, 0) = true", "call(1) = 0", "tick(4) = 4", "about(0, 0) ! 2", "floor(0, 0, 0, 0) = true", "tick(1) = 5",
        "called(0, 2) ! 1", "called(0, 4) ! 5", "about(0, 0) ! 0", "about(1, 0) ! 3");
  }

  static void theMostRooms() {
    List<String> town = List.of("crew(0, 1, false, 100, 1) = 0", "text 1=1?p1", "orders() = 0", "house(2, 2, 1, 4, -1) = 0", "house(1, 2, 1, 4, -1) = 1", "house(1, 2, 1, 4, -1) = 2", "floor(0, 0, 500, 0) = true", "floor(1, 0, 500, 0) = true", "floor(2, 0, 500, 0) = true", "light(0, 0) = true", "light(0, 1) = true", "light(0, 2) = true");
    run("one room against none", town, "light(2, 3) = true", "call(1) = 0", "tick(1) = 1", "about(0, 4) ! 2");
    run("alike: the lowest", town, "light(1, 3) = true", "light(2, 0) = true", "call(1) = 0", "tick(1) = 1", "about(0, 4) ! 1");
    run("two rooms against one", town, "light(1, 3) = true", "light(2, 0) = true", "light(2, 3) = true", "call(1) = 0", "tick(1) = 1", "about(0, 4) ! 2", "housed(2, 5) ! 1", "housed(1, 5) ! 0");
    // As it stands as the minute begins: a room with 400 and no stuff is none that burns.
    run("a hot one does not burn", town, "floor(2, 0, 0, 0) = true", "light(1, 0) = true", "light(2, 0) = true", "light(2, 1) = true", "call(1) = 0", "tick(1) = 1", "about(0, 4) ! 1");
  }

  static void goingOver() {
    // The steamer's WORK began in minute 1: pressure from minute 4 on, in whichever house.
    Run.of(due, "going over", "main(100) = 0", "head(1, 0) = 0", "crew(1, 1, false, 100, 1) = 0", "gear(0, 100, 60, 3) = true", "text 1=1?s1", "orders() = 0", "house(1, 2, 1, 1, -1) = 0", "house(1, 2, 1, 1, -1) = 1", "house(1, 2, 1, 1, -1) = 2", "build(0, false, 3, 1) = true", "build(1, false, 3, 1) = true",
        "build(2, false, 3, 1) = true", "floor(0, 0, 500, 0) = true", "floor(1, 0, 500, 0) = true", "floor(2, 0, 500, 0) = true", "light(0, 0) = true", "light(1, 0) = true", "light(2, 0) = true", "call(1) = 0", "tick(1) = 1", "about(0, 4) ! 0", "tick(1) = 2", "about(0, 4) ! 0", "floor(0, 0, 0, 0) = true", "about(0, 4) ! 0", "tick(1) = 3",
        "about(0, 4) ! 1", "about(0, 8) ! 0", "about(0, 5) ! -1", "tick(1) = 4", "about(0, 8) ! 60", "about(0, 5) ! 0", "housed(1, 6) ! 60", "housed(0, 6) ! 0", "floor(1, 0, 0, 0) = true", "tick(1) = 5", "about(0, 4) ! 2", "housed(2, 6) ! 60",
        // No other one burns: home, and the CALL is OUT.
        "floor(2, 0, 0, 0) = true", "tick(1) = 6", "about(0, 0) ! 0", "called(0, 2) ! 1", "called(0, 4) ! 6", "housed(2, 6) ! 60");
    // To another corner nobody goes over.
    Run.of(due, "not to another corner", "crew(3, 1, false, 100, 1) = 0", "text 1=1?c1", "orders() = 0", "house(1, 2, 1, 1, -1) = 0", "house(2, 2, 1, 1, -1) = 1", "floor(0, 0, 500, 0) = true", "floor(1, 0, 500, 0) = true", "light(0, 0) = true", "light(1, 0) = true", "call(1) = 0", "tick(1) = 1", "floor(0, 0, 0, 0) = true", "tick(1) = 2", "about(0, 0) ! 0",
        "called(0, 2) ! 1");
  }

  static void ladders() {
    List<String> town = List.of("text 1=1?l2", "orders() = 0", "house(1, 2, 3, 1, -1) = 0", "floor(0, 0, 500, 1) = true", "floor(0, 1, 0, 3) = true", "floor(0, 2, 0, 2) = true", "light(0, 0) = true", "crew(2, 1, false, 100, 1) = 0");
    run("HEIGHT 2", town, "gear(0, 2, 0, 0) = true", "call(1) = 0", "tick(1) = 1", "housed(0, 2) ! 2", "floored(0, 1, 2) ! 1", "floored(0, 2, 2) ! 2", "tick(1) = 2", "housed(0, 2) ! 3", "floored(0, 1, 2) ! 0", "floored(0, 0, 2) ! 1", "tick(1) = 3", "housed(0, 2) ! 4", "floored(0, 0, 2) ! 0", "tick(1) = 4", "housed(0, 2) ! 4", "floored(0, 2, 2) ! 2", "count(8) ! 4");
    run("HEIGHT 1", town, "call(1) = 0", "tick(1) = 1", "housed(0, 2) ! 1", "floored(0, 0, 2) ! 0", "floored(0, 1, 2) ! 3", "tick(1) = 2", "housed(0, 2) ! 1");
    run("HEIGHT 3", town, "gear(0, 3, 0, 0) = true", "call(1) = 0", "tick(1) = 1", "floored(0, 2, 2) ! 0", "floored(0, 1, 2) ! 3", "housed(0, 2) ! 2");
    run("HEIGHT 6 of three floors", town, "gear(0, 6, 0, 0) = true", "call(1) = 0", "tick(1) = 1", "floored(0, 2, 2) ! 0", "housed(0, 2) ! 2", "tick(2) = 3", "housed(0, 2) ! 5", "tick(1) = 4", "housed(0, 2) ! 6", "tick(1) = 5", "housed(0, 2) ! 6");
    run("two ladders, rising", town, "crew(2, 1, false, 100, 1) = 1", "gear(0, 2, 0, 0) = true", "gear(1, 2, 0, 0) = true", "call(1) = 0", "tick(1) = 1", "housed(0, 2) ! 3", "floored(0, 1, 2) ! 0", "floored(0, 0, 2) ! 1", "tick(1) = 2", "housed(0, 2) ! 4");
    // Whoever is taken is not LOST in that minute; a floor that has FALLEN has nobody.
    Run.of(due, "a FALLEN floor below HEIGHT", "text 1=1?l1", "orders() = 0", "house(1, 0, 3, 1, -1) = 0", "floor(0, 0, 500, 0) = true", "floor(0, 1, 0, 5) = true", "floor(0, 2, 0, 0) = true", "light(0, 0) = true", "crew(2, 1, false, 100, 1) = 0", "gear(0, 2, 0, 0) = true", "tick(9) = 9", "call(1) = 0", "tick(1) = 10", "floored(0, 1, 1) ! 1",
        "housed(0, 2) ! 2", "housed(0, 3) ! 3", "floor(0, 0, 500, 2) = true", "tick(1) = 11", "housed(0, 2) ! 4", "housed(0, 3) ! 3");
  }

  static void withoutWater() {
    Run.of(due, "no HEAD", "text 1=1?p1", "orders() = 0", "house(1, 2, 1, 1, -1) = 0", "floor(0, 0, 500, 0) = true", "light(0, 0) = true", "crew(0, 1, false, 100, 1) = 0", "call(1) = 0", "tick(1) = 1", "about(0, 0) ! 2", "about(0, 5) ! -1", "about(0, 8) ! 0", "housed(0, 6) ! 0", "room(0, 0, 0) ! 450", "main(100) = 0", "tick(1) = 2", "about(0, 8) ! 0",
        "head(1, 0) = 0", "tick(1) = 3", "about(0, 8) ! 10", "about(0, 5) ! 0", "room(0, 0, 0) ! 548");
    // HOSE 140 reaches floor 1 of a house 100 feet away, 139 floor 0 alone, where nothing burns.
    for (int hose = 139; hose <= 140; hose++) {
      Run.of(due, "HOSE " + hose, "street(0, 1, 1) = 0", "main(100) = 0", "head(0, 0) = 0", "text 1=1?p1", "orders() = 0", "house(1, 2, 2, 1, -1) = 0", "floor(0, 1, 500, 0) = true", "light(0, 1) = true", "crew(0, 1, false, 100, 1) = 0", "gear(0, " + hose + ", 10, 0) = true", "call(1) = 0", "tick(1) = 1", "about(0, 0) ! 2",
          "about(0, 5) ! " + (hose == 140 ? 1 : -1), "about(0, 8) ! " + (hose == 140 ? 10 : 0), "housed(0, 6) ! " + (hose == 140 ? 10 : 0));
    }
  }

  // The last room within REACH is out: it stays at WORK, on no floor, without water.
  static void noRoomWithinReach() {
    Run.of(due, "no room within REACH", "main(2000) = 0", "head(1, 0) = 0", "text 1=1?p1", "orders() = 0", "house(1, 2, 6, 1, -1) = 0", "floor(0, 4, 500, 0) = true", "floor(0, 5, 500, 0) = true", "light(0, 4) = true", "light(0, 5) = true", "crew(0, 1, false, 100, 1) = 0", "call(1) = 0", "tick(1) = 1", "about(0, 5) ! 4", "about(0, 8) ! 10", "floor(0, 4, 0, 0) = true", "tick(1) = 2",
        "about(0, 0) ! 2", "about(0, 4) ! 0", "about(0, 5) ! -1", "about(0, 8) ! 0", "housed(0, 6) ! 10");
  }

  // A CHIEF sees the WATER of this minute alone: what was put on a room in the last one does not count.
  static void waterOfThisMinute() {
    Run.of(due, "WATER so far in this MINUTE", "main(2000) = 0", "head(1, 0) = 0", "text 1=1?p1c1", "orders() = 0", "house(1, 2, 3, 1, -1) = 0", "floor(0, 0, 500, 0) = true", "floor(0, 2, 500, 0) = true", "light(0, 2) = true", "tick(1) = 1", "light(0, 0) = true", "crew(0, 1, false, 100, 1) = 0", "gear(0, 100, 80, 0) = true", "crew(3, 1, false, 100, 1) = 1", "call(1) = 0", "tick(1) = 2",
        "about(0, 5) ! 2", "room(0, 2, 0) ! 480", "room(0, 0, 0) ! 450", "tick(1) = 3", "about(0, 5) ! 2", "room(0, 2, 0) ! 510", "room(0, 0, 0) ! 500", "tick(1) = 4", "about(0, 5) ! 2", "room(0, 2, 0) ! 540", "room(0, 0, 0) ! 550", "tick(1) = 5", "about(0, 5) ! 0");
  }

  static void chief() {
    // Room 0 has 400, room 2 450, room 3 450: without a CHIEF the lowest, with one the hottest, of several the lowest.
    List<String> town = List.of("main(2000) = 0", "head(1, 0) = 0", "house(1, 2, 2, 2, -1) = 0", "floor(0, 0, 500, 0) = true", "floor(0, 1, 500, 0) = true", "crew(0, 1, false, 100, 1) = 0", "crew(0, 1, false, 100, 1) = 1", "crew(3, 1, false, 100, 1) = 2", "light(0, 3) = true", "tick(1) = 1", "light(0, 0) = true");
    run("no CHIEF", town, "text 1=1?p1", "orders() = 0", "call(1) = 0", "tick(1) = 2", "about(0, 5) ! 0");
    run("a CHIEF", town, "text 1=1?p1c1", "orders() = 0", "call(1) = 0", "tick(1) = 2", "about(0, 5) ! 1");
    // The CHIEF is there a minute later.
    run("a CHIEF that is not there yet", town, "text w=1?p1;w=2?c1", "orders() = 0", "call(1) = 0", "tick(1) = 2", "about(0, 5) ! 0", "call(1) = 0", "tick(1) = 3", "about(0, 5) ! 1");
    // 450 less 200 by 4 is 400, as hot as room 0: the lower one; 199 is 401.
    for (int gallons : new int[] {199, 200, 203, 204}) {
      run("HEAT less the WATER by 4: " + gallons, town, "gear(0, 100, " + gallons + ", 0) = true", "text 1=1?p2c1", "orders() = 0", "call(1) = 0", "tick(1) = 2", "about(0, 5) ! 1", "about(1, 5) ! " + (gallons == 199 ? 1 : 0));
    }
  }

  // The CHIEF is the first crew, or the sixteenth.
  static void chiefFirstOrLast() {
    List<String> town = List.of("main(2000) = 0", "head(1, 0) = 0", "house(1, 2, 2, 1, -1) = 0", "floor(0, 0, 500, 0) = true", "floor(0, 1, 500, 0) = true", "light(0, 1) = true", "tick(1) = 1", "light(0, 0) = true", "text 1=1?p1c1", "orders() = 0");
    run("the first crew is a CHIEF", town, "crew(3, 1, false, 100, 1) = 0", "crew(0, 1, false, 100, 1) = 1", "call(1) = 0", "tick(1) = 2", "about(1, 5) ! 1");
    run("the sixteenth crew is a CHIEF", town, "crew(0, 1, false, 100, 1) = 0", "crew(2, 5, false, 100, 1) * 14", "crew(3, 1, false, 100, 1) = 15", "call(1) = 0", "tick(1) = 2", "about(0, 5) ! 1");
    run("a CHIEF in another house", town, "house(1, 2, 1, 3, -1) = 1", "build(0, false, 3, 1) = true", "build(1, false, 3, 1) = true", "floor(1, 0, 500, 0) = true", "crew(0, 1, false, 100, 1) = 0", "crew(3, 1, false, 100, 1) = 1", "text w=1?p1;w=2?c1", "orders() = 1", "call(1) = 0", "tick(1) = 2", "about(0, 5) ! 0", "light(1, 0) = true", "light(1, 1) = true", "light(1, 2) = true", "call(1) = 0",
        "tick(1) = 3", "about(1, 4) ! 1", "about(0, 4) ! 0", "about(0, 5) ! 0");
  }

  static void pressure() {
    for (int minutes : new int[] {1, 2, 30}) {
      Run.of(due, "PRESSURE behind " + minutes, "main(100) = 0", "head(1, 0) = 0", "text 1=1?s1", "orders() = 0", "house(1, 2, 1, 1, -1) = 0", "floor(0, 0, 500, 0) = true", "light(0, 0) = true", "crew(1, 1, false, 100, 1) = 0", "gear(0, 100, 10, " + minutes + ") = true", "call(1) = 0", "tick(1) = 1", "about(0, 0) ! 2", "about(0, 8) ! 0",
          "tick(" + (minutes - 1) + ") = " + minutes, "about(0, 8) ! 0", "about(0, 5) ! -1", "housed(0, 6) ! 0", "tick(1) = " + (minutes + 1), "about(0, 8) ! 10", "about(0, 5) ! 0", "housed(0, 6) ! 10");
    }
  }

  static void mains() {
    int[][] cases = {{61, 30, 31}, {60, 29, 30}, {62, 30, 31}, {10, 4, 5}, {59, 29, 29}};
    for (int[] c : cases) {
      Run.of(due, "GIVES " + c[0] + " of 61", "main(" + c[0] + ") = 0", "head(1, 0) = 0", "text 1=1?p2", "orders() = 0", "house(1, 2, 1, 1, -1) = 0", "floor(0, 0, 500, 0) = true", "light(0, 0) = true", "crew(0, 1, false, 100, 1) = 0", "crew(0, 1, false, 100, 1) = 1", "gear(0, 100, 30, 0) = true", "gear(1, 100, 31, 0) = true", "call(1) = 0",
          "tick(1) = 1", "about(0, 8) ! " + c[1], "about(1, 8) ! " + c[2], "housed(0, 6) ! " + (c[1] + c[2]), "room(0, 0, 0) ! " + (450 - (c[1] + c[2]) / 4));
    }
    // One main for two corners: both ask the same one; its sixth main has its own water.
    Run.of(due, "one MAIN, two HEADS", "main(100) * 5", "main(30) = 5", "head(1, 5) = 0", "head(2, 5) = 1", "text 1=1?p1", "orders() = 0", "house(1, 2, 1, 1, -1) = 0", "house(2, 2, 1, 1, -1) = 1", "floor(0, 0, 500, 0) = true", "floor(1, 0, 500, 0) = true", "light(0, 0) = true", "light(1, 0) = true", "crew(0, 1, false, 100, 1) = 0", "crew(0, 2, false, 100, 1) = 1",
        "gear(0, 100, 20, 0) = true", "gear(1, 100, 40, 0) = true", "call(1) = 0", "call(2) = 1", "tick(1) = 1", "about(0, 8) ! 10", "about(1, 8) ! 20", "housed(0, 6) ! 10", "housed(1, 6) ! 20", "head(2, 4) = 2", "tick(1) = 2", "about(0, 8) ! 10");
  }

  static void leaving() {
    int[][] cases = {{10, 5}, {11, 5}, {12, 6}, {500, 250}, {499, 249}};
    for (int[] c : cases) {
      Run.of(due, "half of " + c[0], "main(2000) = 0", "head(1, 0) = 0", "text 1=1?p1", "orders() = 0", "text 1=1", "leaving() = true", "house(1, 2, 1, 1, -1) = 0", "floor(0, 0, 500, 0) = true", "light(0, 0) = true", "crew(0, 1, false, 100, 1) = 0", "gear(0, 100, " + c[0] + ", 0) = true", "call(1) = 0", "tick(1) = 1", "about(0, 8) ! " + c[1], "about(0, 5) ! -1",
          "room(0, 0, 0) ! " + (450 - c[1] / 4));
    }
    // It asks for the half: two of 5 are no more than the 10 that the main gives.
    Run.of(due, "half is asked", "main(10) = 0", "head(1, 0) = 0", "text 1=1?p2", "orders() = 0", "text 1=1", "leaving() = true", "house(1, 2, 1, 1, -1) = 0", "floor(0, 0, 500, 0) = true", "light(0, 0) = true", "crew(0, 1, false, 100, 1) = 0", "crew(0, 1, false, 100, 1) = 1", "call(1) = 0", "tick(1) = 1", "about(0, 8) ! 5", "about(1, 8) ! 5", "text 1=2", "leaving() = true",
        "tick(1) = 2", "about(0, 8) ! 5", "about(0, 5) ! 0");
  }

  /** Wood, 2 floors of one room: the pump works on floor 1 in minute 10, as floor 0 has burnt 27 (LOAD 54 of 60). */
  static void leaves(String condition, boolean is) {
    Run.of(due, "LEAVING: " + condition, "main(100) = 0", "head(1, 0) = 0", "text 1=1?p1", "orders() = 0", "text " + condition, "leaving() = true", "house(1, 0, 2, 1, -1) = 0", "floor(0, 0, 500, 0) = true", "light(0, 0) = true", "crew(0, 1, false, 100, 7) = 0", "tick(9) = 9", "floor(0, 0, 0, 0) = true", "floor(0, 1, 500, 0) = true", "light(0, 1) = true", "call(1) = 0",
        "tick(1) = 10", "about(0, 8) ! " + (is ? 5 : 10), "about(0, 5) ! " + (is ? -1 : 1));
  }

  static void leavingLetters() {
    leaves("v=1", true);
    leaves("v=0", false);
    leaves("b=90", true);
    leaves("b>89&b<91", true);
    leaves("b>90", false);
    leaves("e=0", true);
    leaves("e>0", false);
    leaves("t=400", true);
    leaves("t>400|t<400", false);
    leaves("m=7", true);
    leaves("m>7|m<7", false);
    leaves("g=1", true);
    leaves("g=0|g>1", false);
    // LOAD 56 of 60 is 93.3, cut; in the second minute e is 1; on floor 0 b is 0, whatever burnt.
    Run.of(due, "LEAVING, cut", "main(100) = 0", "head(1, 0) = 0", "text 1=1?p1", "orders() = 0", "text b=93&e=1", "leaving() = true", "house(1, 0, 2, 1, -1) = 0", "floor(0, 0, 500, 0) = true", "light(0, 0) = true", "crew(0, 1, false, 100, 7) = 0", "tick(9) = 9", "floor(0, 0, 0, 0) = true", "floor(0, 1, 500, 0) = true", "light(0, 1) = true", "call(1) = 0",
        "tick(1) = 10", "about(0, 8) ! 10", "tick(1) = 11", "floored(0, 1, 3) ! 58", "about(0, 8) ! 5");
    // All rooms of the house, not of the floor or of its reach: three, and none beside.
    Run.of(due, "LEAVING, letter g", "main(100) = 0", "head(1, 0) = 0", "text 1=1?p1", "orders() = 0", "text g=3", "leaving() = true", "house(1, 2, 2, 2, -1) = 0", "house(1, 2, 1, 1, -1) = 1", "floor(0, 0, 500, 0) = true", "floor(0, 1, 500, 0) = true", "floor(1, 0, 500, 0) = true", "light(0, 0) = true", "light(0, 2) = true", "light(0, 3) = true", "light(1, 0) = true",
        "crew(0, 1, false, 100, 7) = 0", "call(1) = 0", "tick(1) = 1", "about(0, 8) ! 5", "light(0, 1) = true", "tick(1) = 2", "about(0, 8) ! 10", "text g=4", "leaving() = true", "tick(1) = 3", "about(0, 8) ! 5");
    Run.of(due, "LEAVING, floor 0", "main(100) = 0", "head(1, 0) = 0", "text 1=1?p1", "orders() = 0", "text b=0&v=0", "leaving() = true", "house(1, 0, 2, 1, -1) = 0", "floor(0, 0, 500, 0) = true", "light(0, 0) = true", "crew(0, 1, false, 100, 7) = 0", "tick(5) = 5", "floored(0, 0, 0) ! 13", "call(1) = 0", "tick(1) = 6", "about(0, 8) ! 5");
  }

  // 550, 50 more and 5 gallons by 4 (1) less is 599: nobody; without them 600: one.
  static void peopleBelow600() {
    for (String leaving : new String[] {"1=1", "1=2"}) {
      Run.of(due, "PEOPLE below 600", "main(100) = 0", "head(1, 0) = 0", "text w=1?p1", "orders() = 0", "text " + leaving, "leaving() = true", "house(1, 2, 1, 1, -1) = 0", "floor(0, 0, 500, 5) = true", "light(0, 0) = true", "crew(0, 1, false, 100, 1) = 0", "tick(3) = 3", "call(1) = 0", "tick(1) = 4", "room(0, 0, 0) ! " + (leaving.equals("1=1") ? 599 : 598),
          "housed(0, 3) ! 0", "tick(1) = 5", "housed(0, 3) ! 1");
    }
  }

  // 400, 50 more, less 603 by 4 is 300: it burns; less 604 by 4 is 299: it is OUT.
  static void outOrNot() {
    for (int more : new int[] {303, 304}) {
      boolean out = more == 304;
      Run.of(due, "OUT with 300 and " + more, "main(2000) = 0", "head(1, 0) = 0", "street(0, 1, 4) = 0", "text w=1?p2", "orders() = 0", "house(1, 2, 1, 1, -1) = 0", "floor(0, 0, 500, 0) = true", "light(0, 0) = true", "crew(0, 1, false, 100, 1) = 0", "crew(0, 1, false, 100, 1) = 1", "gear(0, 100, 300, 0) = true", "gear(1, 100, " + more + ", 0) = true", "call(1) = 0",
          "tick(1) = 1", "room(0, 0, 0) ! " + (out ? 299 : 300), "called(0, 2) ! " + (out ? 1 : 0), "called(0, 4) ! " + (out ? 1 : -1), "about(0, 0) ! " + (out ? 0 : 2), "housed(0, 5) ! " + (out ? 0 : 2), "about(0, 6) ! " + (out ? 0 : 2));
    }
    // Nothing left to burn: OUT in that very minute.
    Run.of(due, "OUT without stuff", "text w=1?c1", "orders() = 0", "house(1, 2, 1, 1, -1) = 0", "floor(0, 0, 2, 0) = true", "light(0, 0) = true", "crew(3, 1, false, 100, 1) = 0", "call(1) = 0", "tick(1) = 1", "called(0, 2) ! 1", "called(0, 4) ! 1", "about(0, 0) ! 0", "about(0, 4) ! -1");
    Run.of(due, "OUT, at WORK for a while", "main(100) = 0", "head(1, 0) = 0", "text w=1?p1", "orders() = 0", "house(1, 2, 1, 1, -1) = 0", "floor(0, 0, 500, 0) = true", "light(0, 0) = true", "crew(0, 1, false, 100, 1) = 0", "call(1) = 0", "tick(2) = 2", "about(0, 4) ! 0", "about(0, 5) ! 0", "floor(0, 0, 0, 0) = true", "tick(1) = 3", "about(0, 0) ! 0", "about(0, 4) ! -1", "about(0, 5) ! -1",
        "about(0, 8) ! 0");
    Run.of(due, "one is left to burn", "text w=1?c1", "orders() = 0", "house(1, 2, 1, 1, -1) = 0", "floor(0, 0, 3, 0) = true", "light(0, 0) = true", "crew(3, 1, false, 100, 1) = 0", "call(1) = 0", "tick(1) = 1", "called(0, 2) ! 0", "about(0, 0) ! 2", "tick(1) = 2", "called(0, 2) ! 1", "called(0, 4) ! 2");
    // Burnt out, and nobody is at WORK: OPEN till one is there.
    Run.of(due, "nobody is there", "house(1, 2, 1, 1, -1) = 0", "floor(0, 0, 2, 0) = true", "light(0, 0) = true", "call(1) = 0", "tick(300) = 300", "called(0, 2) ! 0", "count(5) ! 1");
  }

  static void turningHome() {
    // It can't come, or it is there: READY at HOME at once; a minute away it is on its WAY.
    Run.of(due, "turning home, no way", "street(0, 1, 5) = 0", "crew(0, 0, false, 100, 1) = 0", "text 1=1?p1", "orders() = 0", "call(1) = 0", "closed(0, true) = true", "tick(5) = 5", "called(0, 2) ! 2", "about(0, 0) ! 0", "about(0, 1) ! 0", "about(0, 2) ! -1", "about(0, 6) ! 3");
    Run.of(due, "turning home, at home", "crew(0, 1, false, 100, 1) = 0", "text 1=1?p1", "orders() = 0", "call(1) = 0", "tick(1) = 1", "about(0, 0) ! 0", "about(0, 1) ! 1", "about(0, 2) ! -1", "about(0, 6) ! 0");
    Run.of(due, "turning home, a minute", "street(0, 1, 1) = 0", "crew(0, 0, false, 50, 1) = 0", "text 1=1?p1", "orders() = 0", "call(1) = 0", "about(0, 2) ! 1", "tick(1) = 1", "about(0, 0) ! 3", "about(0, 1) ! 0", "about(0, 2) ! 2", "tick(1) = 2", "about(0, 0) ! 0");
    // Six hundred minutes are the most; 601 are at once.
    List<String> far = new ArrayList<>();
    for (int i = 0; i < 7; i++) far.add("street(" + i + ", " + (i + 1) + ", 20) = " + i);
    far.add("street(7, 8, 10) = 7");
    for (int i = 0; i < 8; i++) for (int part = 0; part < 4; part++) far.add("jam(" + i + ", " + part + ", 400) = true");
    run("turning home, 600", far, "crew(0, 0, false, 100, 1) = 0", "text 1=1?p1", "orders() = 0", "call(8) = 0", "about(0, 2) ! 600", "tick(300) = 300", "tick(300) = 600", "about(0, 0) ! 3", "about(0, 2) ! 1200");
    // A short street to corner 9 is closed behind the crew: the other one makes it 601 back; to corner 8 it is 600.
    run("turning home, 601", far, "street(7, 9, 20) = 8", "jam(8, 0, 205) = true", "jam(8, 1, 205) = true", "jam(8, 2, 205) = true", "jam(8, 3, 205) = true", "street(7, 9, 1) = 9", "crew(0, 0, false, 100, 1) = 0", "text 1=1?p1", "orders() = 0", "call(9) = 0", "about(0, 2) ! 561", "tick(300) = 300", "tick(260) = 560",
        "closed(9, true) = true", "come(9, 0, 561, 100) ! -1", "tick(1) = 561", "called(0, 2) ! 2", "about(0, 0) ! 0", "about(0, 1) ! 0", "about(0, 2) ! -1");
    run("turning home, 600 again", far, "street(7, 8, 1) = 8", "crew(0, 0, false, 100, 1) = 0", "text 1=1?p1", "orders() = 0", "call(8) = 0", "about(0, 2) ! 561", "tick(300) = 300", "tick(260) = 560", "closed(8, true) = true", "tick(1) = 561", "about(0, 0) ! 3", "about(0, 2) ! 1161");
  }

  static void hurt() {
    // LOAD is 54 as floor 1 is lit: 56, 58, 61. One pump is on it, one on floor 0 of the house beside, one in the street.
    Run.of(due, "HURT", "main(1000) = 0", "head(1, 0) = 0", "house(1, 0, 2, 1, -1) = 0", "floor(0, 0, 500, 0) = true", "floor(0, 1, 500, 4) = true", "crew(0, 1, true, 100, 1) = 0", "crew(0, 1, true, 100, 9) = 1", "crew(2, 1, true, 100, 1) = 2", "text 1=1?p2l1", "orders() = 0", "text m=9", "leaving() = true", "light(0, 0) = true", "tick(9) = 9", "floor(0, 0, 0, 0) = true",
        "light(0, 1) = true", "call(1) = 0", "tick(2) = 11", "floored(0, 1, 3) ! 58", "about(0, 5) ! 1", "about(1, 5) ! -1", "count(10) ! 0", "tick(1) = 12", "floored(0, 1, 1) ! 1", "about(0, 0) ! 4", "about(1, 0) ! 2", "about(2, 0) ! 2", "count(10) ! 1", "housed(0, 5) ! 2", "housed(0, 3) ! 4", "about(0, 6) ! 0", "about(0, 8) ! 10");
    // One that is on floor 0 is not HURT as floor 1 falls onto it.
    Run.of(due, "not HURT below", "main(1000) = 0", "head(1, 0) = 0", "house(1, 0, 2, 1, -1) = 0", "floor(0, 0, 500, 0) = true", "floor(0, 1, 100, 0) = true", "crew(0, 1, true, 100, 1) = 0", "text 1=1?p1", "orders() = 0", "light(0, 0) = true", "tick(8) = 8", "call(1) = 0", "tick(1) = 9", "about(0, 5) ! 0", "floored(0, 1, 1) ! 0", "tick(1) = 10", "floored(0, 1, 1) ! 1",
        "about(0, 0) ! 2", "about(0, 5) ! 0", "count(10) ! 0");
  }

  static void tired() {
    // READY at 0 stays 0; GOING and on a WAY one more, at WORK two more; the minute in which it is there counts as what it is then.
    Run.of(due, "TIRED by what it is about", "street(0, 1, 3) = 0", "house(1, 2, 1, 1, -1) = 0", "floor(0, 0, 500, 0) = true", "light(0, 0) = true", "crew(0, 0, false, 100, 1) = 0", "text 1=1?p1", "orders() = 0", "tick(1) = 1", "about(0, 6) ! 0", "call(1) = 0", "tick(2) = 3", "about(0, 6) ! 2", "tick(1) = 4", "about(0, 0) ! 2", "about(0, 6) ! 4", "tick(1) = 5",
        "about(0, 6) ! 6", "floor(0, 0, 0, 0) = true", "tick(1) = 6", "about(0, 0) ! 3", "about(0, 6) ! 7", "tick(2) = 8", "about(0, 6) ! 9", "tick(1) = 9", "about(0, 0) ! 0", "about(0, 6) ! 8", "tick(8) = 17", "about(0, 6) ! 0", "tick(1) = 18", "about(0, 6) ! 0");
  }
}
