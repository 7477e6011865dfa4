import java.util.ArrayList;
import java.util.Arrays;
import java.util.List;

/** The edges of promises 34 to 41: acts, which is in force, changes of use, looks, what a house fails by (terms, ==== 6). */
public final class EdgesOfLawTest {
  static final Due due = new Due();

  public static void main(String[] args) {
    act();
    twelveActs();
    force();
    forceByYears();
    change();
    used();
    usedByMinutes();
    look();
    hundred();
    fails();
    code();
    mostCodes();
    letters();
    days();
    failing();
    due.over();
  }

  static void run(String part, List<String> first, String... then) {
    List<String> all = new ArrayList<>(first);
    all.addAll(Arrays.asList(then));
    Run.of(due, part, all.toArray(new String[0]));
  }

  static void act() {
    Run.of(due, "promise 34", "act(1) ! -1", "house(0, 0, 1, 1, -1) = 0", "text 1=1?7", "act(0) ! -1", "act(201) ! -1", "act(-1) ! -1", "act(MIN) ! -1", "act(MAX) ! -1", "count(13) ! 5", "count(11) ! 0", "act(1) = 0", "count(13) ! 0", "count(11) ! 1", "fails(0, 0) ! 1", "act(1) ! -1", "text 1=1?7", "act(200) = 1",
        "text 1=1?", "act(1) ! -1", "count(13) ! 4", "text 1=1?p1", "act(1) ! -1", "text 1=1", "act(1) ! -1", "text 1=1?1234", "act(1) ! -1", "text 1=1?1;", "act(1) ! -1", "count(11) ! 2", "force(0, 0) ! 0", "code(0, 0, 0) ! 7");
  }

  static void twelveActs() {
    List<String> lines = new ArrayList<>(List.of("house(0, 0, 1, 1, -1) = 0"));
    for (int i = 0; i < 11; i++) {
      lines.add("text 1=1?" + i);
      lines.add("act(1) = " + i);
    }
    run("promise 34, twelve", lines, "count(11) ! 11", "code(0, 0, 0) ! 10", "text 1=1?", "act(1) ! -1", "text 1=1?99", "act(1) = 11", "code(0, 0, 0) ! 99", "force(0, 0) ! 11", "text 1=1?55", "act(1) ! -1", "act(200) ! -1", "count(13) ! 6", "count(11) ! 12", "code(0, 0, 0) ! 99", "fault(2) ! -1");
  }

  static void force() {
    Run.of(due, "promise 35", "force(0, 0) ! -1", "house(0, 0, 1, 1, -1) = 0", "force(0, 0) ! -1", "tick(10) = 10", "text 1=1?1", "act(1) = 0", "tick(10) = 20", "text 1=1?2", "act(1) = 1", "force(0, 0) ! -1", "force(0, 9) ! -1", "force(0, 10) ! 0", "force(0, 19) ! 0", "force(0, 20) ! 1", "force(0, 21) ! -1", "force(0, -1) ! -1",
        "force(0, MIN) ! -1", "force(0, MAX) ! -1", "force(-1, 10) ! -1", "force(1, 10) ! -1", "force(MIN, 10) ! -1", "force(MAX, 10) ! -1", "text 1=1?3", "act(1) = 2", "force(0, 20) ! 2", "force(0, 19) ! 0");
  }

  static void forceByYears() {
    Run.of(due, "promise 35, YEARS", "house(0, 0, 1, 1, -1) = 0", "house(0, 0, 1, 1, -1) = 1", "build(1, false, 0, 200) = true", "text 1=1?1", "act(200) = 0", "force(0, 0) ! -1", "force(1, 0) ! 0", "text 1=1?1", "act(199) = 1", "force(1, 0) ! 0", "text 1=1?1", "act(1) = 2", "force(0, 0) ! 2", "force(1, 0) ! 0",
        "build(1, false, 0, 199) = true", "force(1, 0) ! 1", "build(1, false, 0, 198) = true", "force(1, 0) ! 2", "text 1=1?1", "act(2) = 3", "force(0, 0) ! 2", "force(1, 0) ! 3", "build(0, false, 0, 2) = true", "force(0, 0) ! 3",
        // Told later from a lesser YEAR it is not ahead; from the same one it is.
        "text 1=1?1", "act(1) = 4", "force(0, 0) ! 3", "text 1=1?1", "act(2) = 5", "force(0, 0) ! 5", "build(0, false, 0, 1) = true", "force(0, 0) ! 4");
  }

  static void change() {
    Run.of(due, "promise 36", "change(0, 1, 0) ! false", "house(0, 0, 1, 1, -1) = 0", "house(0, 0, 1, 1, -1) = 1", "use(0, 5) = true", "tick(5) = 5", "change(-1, 1, 0) ! false", "change(2, 1, 0) ! false", "change(MIN, 1, 0) ! false", "change(MAX, 1, 0) ! false", "change(0, -1, 0) ! false", "change(0, 10, 0) ! false", "change(0, MIN, 0) ! false",
        "change(0, MAX, 0) ! false", "change(0, 1, -1) ! false", "change(0, 1, 6) ! false", "change(0, 1, MIN) ! false", "change(0, 1, MAX) ! false", "used(0, 5) ! 5", "change(0, 9, 5) = true", "used(0, 5) ! 9", "used(0, 4) ! 5", "used(1, 5) ! 0", "change(0, 0, 0) = true", "used(0, 5) ! 9", "change(1, 0, 0) = true", "used(1, 5) ! 0",
        "use(1, 3) ! false");
  }

  static void used() {
    Run.of(due, "promise 37", "used(0, 0) ! -1", "house(0, 0, 1, 1, -1) = 0", "used(0, 0) ! 0", "used(0, 1) ! -1", "used(0, -1) ! -1", "used(0, MIN) ! -1", "used(0, MAX) ! -1", "used(-1, 0) ! -1", "used(1, 0) ! -1", "used(MIN, 0) ! -1", "used(MAX, 0) ! -1", "tick(1) = 1", "used(0, 1) ! 0", "used(0, 2) ! -1");
  }

  static void usedByMinutes() {
    // Told at 10 from 8; at 20 from 5, from 8, from 9: the greatest MINUTE, of several the one told last, as known then.
    Run.of(due, "promise 37, as known", "house(0, 0, 1, 1, -1) = 0", "use(0, 1) = true", "tick(10) = 10", "change(0, 2, 8) = true", "used(0, 9) ! 1", "used(0, 10) ! 2", "used(0, 8) ! 1", "tick(10) = 20", "change(0, 3, 5) = true", "used(0, 20) ! 2", "change(0, 4, 8) = true", "used(0, 20) ! 4", "used(0, 19) ! 2", "change(0, 5, 7) = true", "used(0, 20) ! 4",
        "change(0, 6, 9) = true", "used(0, 20) ! 6", "used(0, 19) ! 2", "used(0, 0) ! 1", "change(0, 7, 20) = true", "used(0, 20) ! 7", "change(0, 8, 0) = true", "used(0, 20) ! 7", "tick(1) = 21", "used(0, 21) ! 7", "used(0, 20) ! 7", "used(0, 19) ! 2");
  }

  static void look() {
    Run.of(due, "promise 38", "look(0) ! false", "house(0, 0, 1, 1, -1) = 0", "text l=0?1;l=999?2", "act(1) = 0", "look(-1) ! false", "look(1) ! false", "look(MIN) ! false", "look(MAX) ! false", "code(0, 0, 0) ! 2", "look(0) = true", "code(0, 0, 0) ! 1", "look(0) = true", "code(0, 0, 0) ! 1");
  }

  static void hundred() {
    // A hundred of both in all, of whichever house.
    Run.of(due, "promises 36, 38, a hundred", "house(0, 0, 1, 1, -1) = 0", "house(0, 0, 1, 1, -1) = 1", "change(0, 3, 0) * 50", "look(1) * 48", "change(1, 4, 0) = true", "look(0) = true", "look(0) ! false", "look(1) ! false", "change(0, 5, 0) ! false", "change(1, 5, 0) ! false", "used(0, 0) ! 3", "used(1, 0) ! 4", "use(0, 1) ! false");
    Run.of(due, "promise 38, ninety-nine", "house(0, 0, 1, 1, -1) = 0", "look(0) * 99", "change(0, 5, 0) = true", "used(0, 0) ! 5", "change(0, 6, 0) ! false", "look(0) ! false", "used(0, 0) ! 5");
    Run.of(due, "promise 36, refused ones do not count", "house(0, 0, 1, 1, -1) = 0", "change(0, 10, 0) * 30", "look(1) * 30", "look(0) * 98", "look(0) = true", "change(0, 9, 0) = true", "look(0) ! false");
    Run.of(due, "promise 38, a hundred looks", "house(0, 0, 1, 1, -1) = 0", "look(0) * 100", "look(0) ! false", "change(0, 1, 0) ! false", "use(0, 7) = true", "used(0, 0) ! 7");
  }

  static void fails() {
    Run.of(due, "promise 39", "fails(0, 0) ! -1", "house(0, 0, 1, 1, -1) = 0", "fails(0, 0) ! 0", "tick(3) = 3", "text 1=1?1;1=2?2;1=1?1", "act(1) = 0", "fails(0, 3) ! 2", "fails(0, 2) ! 0", "fails(0, 4) ! -1", "fails(0, -1) ! -1", "fails(0, MIN) ! -1", "fails(0, MAX) ! -1", "fails(-1, 3) ! -1", "fails(1, 3) ! -1", "fails(MIN, 3) ! -1", "fails(MAX, 3) ! -1",
        "text 1=2?5", "act(1) = 1", "fails(0, 3) ! 0");
  }

  static void code() {
    Run.of(due, "promise 40", "code(0, 0, 0) ! -1", "house(0, 0, 1, 1, -1) = 0", "code(0, 0, 0) ! -1", "tick(3) = 3", "text 1=1?0;1=2?2;1=1?999;1=1?1", "act(1) = 0", "code(0, 3, 0) ! 0", "code(0, 3, 1) ! 999", "code(0, 3, 2) ! 1", "code(0, 3, 3) ! -1", "code(0, 3, -1) ! -1", "code(0, 3, MIN) ! -1", "code(0, 3, MAX) ! -1", "code(0, 2, 0) ! -1",
        "code(0, 4, 0) ! -1", "code(0, -1, 0) ! -1", "code(0, MAX, 0) ! -1", "code(-1, 3, 0) ! -1", "code(1, 3, 0) ! -1", "code(MIN, 3, 0) ! -1", "code(MAX, 3, 0) ! -1");
  }

  // Six bytes a clause: thirty-three are all that 200 bytes can have.
  static void mostCodes() {
    StringBuilder text = new StringBuilder("1=1?0");
    for (int i = 1; i < 33; i++) text.append(";1=1?").append(i % 10);
    Run.of(due, "promise 40, thirty-three", "house(0, 0, 1, 1, -1) = 0", "text " + text, "count(13) ! 197", "act(1) = 0", "fails(0, 0) ! 33", "code(0, 0, 31) ! 1", "code(0, 0, 32) ! 2", "code(0, 0, 33) ! -1", "round(0, 10, 0) ! 360");
  }

  static void letters() {
    // The least and the greatest of each letter.
    Run.of(due, "letters, the least", "house(0, 0, 1, 1, -1) = 0", "text s=1?1;r=1?2;u=0?3;k=0?4;g=0?5;x=0?6;w=0?7;y=1?8;d=0?9;n=0?10;l=999?11", "act(1) = 0", "fails(0, 0) ! 11", "code(0, 0, 10) ! 11", "look(0) = true", "fails(0, 0) ! 10");
    Run.of(due, "letters, the greatest", "house(0, 2, 6, 4, 3) = 0", "house(0, 2, 6, 4, 0) = 1", "house(0, 2, 6, 4, -1) = 2", "use(1, 9) = true", "build(1, true, 3, 200) = true", "floor(1, 5, 500, 0) = true", "floor(1, 0, 499, 0) = true", "look(1) = true", "text s=6?1;r=4?2;u=9?3;k=2?4;g=500?5;x=1?6;w=3?7;y=200?8;d=1?9;n=2?10;l=0?11", "act(1) = 0", "fails(1, 0) ! 11",
        // The first of the row has one beside it and no stuff; the last one has no shaft.
        "fails(0, 0) ! 4", "fails(2, 0) ! 3", "floor(1, 5, 0, 0) = true", "fails(1, 0) ! 10", "floor(1, 3, 500, 0) = true", "fails(1, 0) ! 11");
    // STUFF as it was told, not what is left; as it is now, whatever q is.
    Run.of(due, "letter g", "house(0, 2, 1, 1, -1) = 0", "text g=50?1", "act(1) = 0", "floor(0, 0, 50, 0) = true", "light(0, 0) = true", "tick(5) = 5", "room(0, 0, 1) ! 37", "fails(0, 5) ! 1", "fails(0, 0) ! 1", "floor(0, 0, 51, 0) = true", "fails(0, 5) ! 0", "fails(0, 0) ! 0");
    // BESIDE by the row of its corner.
    Run.of(due, "letter n", "house(0, 2, 1, 1, -1) = 0", "text n=0?1;n=1?2;n=2?3", "act(1) = 0", "code(0, 0, 0) ! 1", "house(1, 2, 1, 1, -1) = 1", "code(0, 0, 0) ! 1", "house(0, 2, 1, 1, -1) = 2", "code(0, 0, 0) ! 2", "code(2, 0, 0) ! 2", "house(0, 2, 1, 1, -1) = 3", "code(2, 0, 0) ! 3", "code(0, 0, 0) ! 2", "code(3, 0, 0) ! 2", "code(1, 0, 0) ! 1");
  }

  static void days() {
    Run.of(due, "letter l", "house(0, 0, 1, 1, -1) = 0", "text l=0?1;l=1?2;l=2?3;l=999?4", "act(1) = 0", "tick(20) = 20", "look(0) = true", "code(0, 20, 0) ! 1", "code(0, 19, 0) ! 4", "code(0, 0, 0) ! 4", "tick(300) * 4", "tick(239) = 1459", "code(0, 1459, 0) ! 1", "tick(1) = 1460", "code(0, 1460, 0) ! 2", "code(0, 1459, 0) ! 1", "tick(300) * 4", "tick(239) = 2899",
        "code(0, 2899, 0) ! 2", "tick(1) = 2900", "code(0, 2900, 0) ! 3", "look(0) = true", "code(0, 2900, 0) ! 1", "code(0, 2899, 0) ! 2", "code(0, 19, 0) ! 4");
    // As long as it can be: thirteen days of 20,000 minutes.
    Run.of(due, "letter l, thirteen days", "house(0, 0, 1, 1, -1) = 0", "text l=13?1;l>13?2", "act(1) = 0", "look(0) = true", "tick(300) * 66", "tick(200) = 20000", "code(0, 20000, 0) ! 1", "fails(0, 18719) ! 0", "fails(0, 18720) ! 1", "round(0, 500, 0) ! 23");
  }

  static void failing() {
    Run.of(due, "promise 41", "failing() ! 0", "house(0, 0, 1, 1, -1) * 11", "house(0, 0, 2, 1, -1) = 11", "failing() ! 0", "text s=2?1", "act(1) = 0", "failing() ! 2048", "text 1=1?1;1=1?2", "act(1) = 1", "failing() ! 4095", "text 1=2?1", "act(1) = 2", "failing() ! 0", "text s=1?0", "act(1) = 3", "failing() ! 2047");
    // As known NOW: by a change of use that comes now.
    Run.of(due, "promise 41, NOW", "house(0, 0, 1, 1, -1) = 0", "text u=3?1", "act(1) = 0", "failing() ! 0", "change(0, 3, 0) = true", "failing() ! 1", "tick(1) = 1", "change(0, 4, 1) = true", "failing() ! 0", "fails(0, 0) ! 1");
  }
}
