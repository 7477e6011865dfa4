import java.util.ArrayList;
import java.util.List;

/**
 * All that can be seen of a city behind some calls, now and in what comes of it. Each part of it is asked of
 * a new object on which the calls are made again, so that no object is asked more than 512 times.
 */
final class View {
  private final List<Step> done;
  private final Step one;
  private final StringBuilder seen = new StringBuilder();
  private int houses, crews, calls, rows, streets, now, orders;

  private View(List<Step> done, Step one) {
    this.done = done;
    this.one = one;
  }

  /** How it looks behind what was done and, unless it is null, one call more. */
  static String of(List<Step> done, Step one) {
    View view = new View(done, one);
    view.count();
    view.part(List.of(), view.town());
    view.part(List.of(), view.ways());
    view.part(List.of(), view.law());
    view.part(List.of(), view.texts());
    for (int minutes : new int[] {1, 7, 60}) view.part(steps("tick(" + minutes + ")"), view.moving());
    view.part(view.fires(), view.moving());
    view.part(List.of(), view.told());
    view.part(List.of(), view.events());
    view.part(List.of(), view.rowsAgain());
    return view.seen.toString();
  }

  static String difference(String before, String then) {
    String[] a = before.split("\n"), b = then.split("\n");
    for (int i = 0; i < Math.min(a.length, b.length); i++) if (!a[i].equals(b[i])) return a[i] + " | " + b[i];
    return a.length + " | " + b.length;
  }

  private static List<Step> steps(String... all) {
    List<Step> out = new ArrayList<>();
    for (String s : all) out.add(new Step(s));
    return out;
  }

  private CityBrigade again() {
    CityBrigade x = new CityBrigade();
    for (Step s : done) s.on(x);
    if (one != null) one.on(x);
    return x;
  }

  private void count() {
    CityBrigade x = again();
    now = x.count(0);
    streets = x.count(1);
    houses = x.count(2);
    crews = x.count(3);
    calls = x.count(4);
    orders = x.count(12);
    rows = x.count(16);
  }

  private void part(List<Step> first, List<String> questions) {
    int room = Run.MOST_CALLS - done.size() - 1 - first.size();
    if (room < 10) throw new IllegalStateException("too many calls to look at it");
    for (int from = 0; from < questions.size(); from += room) {
      CityBrigade x = again();
      for (Step s : first) s.on(x);
      for (String q : questions.subList(from, Math.min(questions.size(), from + room))) {
        seen.append(q).append(' ').append(new Step(q).on(x)).append('\n');
      }
    }
  }

  private static void all(List<String> out, String name, int... ends) {
    String given = "";
    all(out, name, given, 0, ends);
  }
  private static void all(List<String> out, String name, String given, int at, int[] ends) {
    if (at == ends.length) {
      out.add(name + "(" + given + ")");
      return;
    }
    for (int i = 0; i < ends[at]; i++) all(out, name, given + (at == 0 ? "" : ", ") + i, at + 1, ends);
  }

  private List<String> moving() {
    List<String> out = new ArrayList<>();
    all(out, "count", 17);
    all(out, "about", crews, 9);
    all(out, "called", calls, 8);
    all(out, "housed", houses, 7);
    all(out, "floored", houses, 6, 4);
    all(out, "room", houses, 24, 3);
    return out;
  }

  private List<String> town() {
    List<String> out = moving();
    all(out, "reach", crews, houses);
    if (calls > 0) all(out, "falses", 20, 4);
    for (int n = 1; calls > 0 && n < 4; n++) {
      out.add("plan(" + n + ", 10)");
      for (int i = 0; i < n; i++) out.add("planned(" + n + ", 10, " + i + ")");
    }
    for (int h = 0; h < houses; h++) out.add("what(" + h + ", 0, 40, 60)");
    return out;
  }

  private List<String> ways() {
    List<String> out = new ArrayList<>();
    if (streets == 0) return out;
    all(out, "feet", 20, 20);
    for (int from = 0; from < 20; from++) for (int to = from + 1; to < 20; to++) for (int part = 0; part < 4; part++) {
      out.add("come(" + from + ", " + to + ", " + 360 * part + ", 100)");
    }
    return out;
  }

  private List<String> law() {
    List<String> out = new ArrayList<>();
    for (int h = 0; h < houses; h++) for (int q : new int[] {0, now / 2, now}) {
      out.add("force(" + h + ", " + q + ")");
      out.add("used(" + h + ", " + q + ")");
      out.add("fails(" + h + ", " + q + ")");
      for (int i = 0; i < 3; i++) out.add("code(" + h + ", " + q + ", " + i + ")");
    }
    out.add("failing()");
    for (int c = 0; houses > 0 && c < 20; c++) out.add("round(" + c + ", 100, 0)");
    return out;
  }

  private List<String> texts() {
    List<String> out = new ArrayList<>();
    all(out, "fault", 3);
    if (orders > 0) all(out, "asks", 20, 4, 5);
    if (orders > 0) all(out, "why", 20, 4);
    out.add("orders()");
    all(out, "asks", 2, 4, 5);
    out.add("leaving()");
    out.add("act(200)");
    out.add("count(13)");
    return out;
  }

  // All houses are lit, all corners called: kinds, shafts, doors, walls, gear and orders show in what comes of it.
  private List<Step> fires() {
    List<Step> out = new ArrayList<>();
    for (int h = 0; h < houses; h++) {
      for (int f = 0; f < 3; f++) out.add(new Step("floor(" + h + ", " + f + ", " + (60 + 7 * f) + ", 3)"));
      out.add(new Step("light(" + h + ", 0)"));
      out.add(new Step("light(" + h + ", 1)"));
    }
    for (int c = 0; c < 4; c++) out.add(new Step("call(" + c + ")"));
    out.add(new Step("tick(30)"));
    return out;
  }

  // What was told of houses, by acts that come now.
  private List<String> told() {
    List<String> out = new ArrayList<>();
    if (houses == 0) return out;
    for (int year : new int[] {1, 2, 50, 100, 200}) {
      out.add("end(0)");
      // d=1?1;w>0?2;w>1?3;w>2?4;g>9?5;x=1?6
      out.add("feed(0x643d313f, 0x313b773e, 0x303f323b, 0x773e313f, 0x333b773e)");
      out.add("feed(0x323f343b, 0x673e393f, 0x353b783d, 0x313f3600, 0)");
      out.add("act(" + year + ")");
    }
    for (int h = 0; h < houses; h++) {
      out.add("force(" + h + ", " + now + ")");
      out.add("fails(" + h + ", " + now + ")");
      for (int i = 0; i < 6; i++) out.add("code(" + h + ", " + now + ", " + i + ")");
    }
    return out;
  }

  // How many looks there are still to come, and whether a change was told.
  private List<String> events() {
    List<String> out = new ArrayList<>();
    if (houses == 0) return out;
    for (int h = 0; h < houses; h++) {
      out.add("use(" + h + ", 6)");
      out.add("used(" + h + ", " + now + ")");
    }
    for (int i = 0; i < 101; i++) out.add("look(0)");
    return out;
  }

  private List<String> rowsAgain() {
    List<String> out = new ArrayList<>();
    for (int r = 0; r < rows; r++) for (int c = 0; c < 20; c++) out.add("judge(" + r + ", " + (1 << c) + ", 0)");
    for (int r = 0; r < rows; r++) {
      out.add("copy(" + r + ", 0, " + (r + 1) % rows + ", 1, 2)");
      out.add("put(" + r + ", 0, 40000)");
      out.add("judge(" + r + ", 1, 0)");
    }
    return out;
  }
}
