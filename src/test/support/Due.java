/** What a test needs: answers that are due, told where they are not, and texts fed to a tape. */
final class Due {
  private int wrong = 0;
  private int asked = 0;
  private String part = "";

  void part(String name) { part = name; }

  void is(String call, long got, long want) {
    asked++;
    if (got != want) tell(call, "" + got, "" + want);
  }
  void is(String call, boolean got, boolean want) {
    asked++;
    if (got != want) tell(call, "" + got, "" + want);
  }
  void isDouble(String call, double got, double want) {
    asked++;
    if (got != want && !(got != got && want != want)) tell(call, "" + got, "" + want);
  }
  void yes(String call, boolean got) { is(call, got, true); }
  void no(String call, boolean got) { is(call, got, false); }
  void none(String call, long got) { is(call, got, -1); }

  private void tell(String call, String got, String want) {
    wrong++;
    System.out.println(part + ": " + call + " answered " + got + ", due is " + want);
  }

  void over() {
    System.out.println(wrong == 0 ? "all " + asked + " answers are as due" : wrong + " of " + asked + " answers are not as due");
    if (wrong != 0) System.exit(1);
  }

  /** Feeds a text in as many calls as it takes; the last answer. */
  static int feed(CityBrigade x, String text) {
    int last = -1;
    for (int from = 0; from == 0 || from < text.length(); from += 20) {
      int[] v = new int[5];
      for (int i = 0; i < 20 && from + i < text.length(); i++) v[i / 4] |= text.charAt(from + i) << (24 - 8 * (i % 4));
      last = x.feed(v[0], v[1], v[2], v[3], v[4]);
    }
    return last;
  }
  static int fault(CityBrigade x, String text, int sort) {
    x.end(0);
    feed(x, text);
    return x.fault(sort);
  }
  static int orders(CityBrigade x, String text) {
    x.end(0);
    feed(x, text);
    return x.orders();
  }
  static boolean leaving(CityBrigade x, String text) {
    x.end(0);
    feed(x, text);
    return x.leaving();
  }
  static int act(CityBrigade x, String text, int year) {
    x.end(0);
    feed(x, text);
    return x.act(year);
  }
}
