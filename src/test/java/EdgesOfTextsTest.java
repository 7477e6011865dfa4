import java.util.ArrayList;
import java.util.Arrays;
import java.util.List;

/** The edges of promises 26 to 30: the tape, faults, orders, leaving, and numbers that are bounded (terms, ==== 4). */
public final class EdgesOfTextsTest {
  static final Due due = new Due();

  public static void main(String[] args) {
    feed();
    feedUpTo200();
    end();
    faultSorts();
    endsTooEarly();
    digits();
    depths();
    blanks();
    letters();
    eachByte();
    twentyOrders();
    leaving();
    bounded();
    truths();
    full();
    due.over();
  }

  static void run(String part, List<String> first, String... then) {
    List<String> all = new ArrayList<>(first);
    all.addAll(Arrays.asList(then));
    Run.of(due, part, all.toArray(new String[0]));
  }

  static void feed() {
    Run.of(due, "promise 26", "feed(0, 0, 0, 0, 0) ! 0", "feed(1, 0, 0, 0, 0) = 1", "feed(0, 0, 0, 0, 0) ! 1", "feed(0x01000000, 0, 0, 0, 0) = 2", "feed(0x00010000, 0x00000100, 0, 0, 0) = 4", "feed(-1, -1, -1, -1, -1) = 24", "feed(MIN, 0, 0, 0, 0) = 25", "feed(0, 0, 0, 0, MAX) = 29",
        "feed(0, 0, 0, 0, 1) = 30", "count(13) ! 30", "end(0) = true",
        // 1=1?p1, of each number the highest first, of the numbers the first one first.
        "feed(0x313d0031, 0, 0x0000003f, 0x00700000, 0x31000000) = 6", "fault(0) ! -1", "orders() = 0", "asks(0, 1, 0) ! 1",
        // A byte of 255, 128 or 1 is a byte, and a FAULT.
        "feed(0x313d31ff, 0, 0, 0, 0) = 4", "fault(0) ! 3", "fault(1) ! 3", "end(3) = true", "fault(1) ! -1", "feed(0x80, 0, 0, 0, 0) = 4", "fault(1) ! 3", "end(3) = true", "feed(0x01, 0, 0, 0, 0) = 4", "fault(1) ! 3");
  }

  static void feedUpTo200() {
    Run.of(due, "promise 26, 200", "feed(-1, -1, -1, -1, -1) * 9", "count(13) = 180", "feed(-1, -1, -1, -1, -1) = 200", "feed(0, 0, 0, 0, 1) ! -1", "feed(1, 0, 0, 0, 0) ! -1", "feed(-1, -1, -1, -1, -1) ! -1", "feed(0, 0, 0, 0, 0) ! 200", "count(13) ! 200",
        "end(199) = true", "feed(0x0101, 0, 0, 0, 0) ! -1", "feed(0x01, 0, 0, 0, 0x01) ! -1", "count(13) ! 199", "feed(0, 0, 0x010000, 0, 0) = 200", "end(181) = true", "feed(-1, -1, -1, -1, -1) ! -1", "feed(-1, -1, -1, -1, 0x00ffffff) = 200",
        "end(181) = true", "feed(0x00ffffff, -1, -1, -1, -1) = 200");
    // What is refused leaves the bytes as they were.
    Run.of(due, "promise 26, refused", "text 1=1?p1;1=1?p1;1=1?p1;1=1?p1;1=1?p1;1=1?p1;1=1?p1;1=1?p1;1=1?p1;1=1?p1;1=1?p1;1=1?p1;1=1?p1;1=1?p1;1=1?p1;1=1?p1;1=1?p1;1=1?p1;1=1?p1;1=1?p1;1=1?p1;1=1?p1;1=1?p1;1=1?p1;1=1?p1;1=1?p1;1=1?p1;1=1?p1", "count(13) = 195",
        "feed(0x3b313d31, 0x3f700000, 0, 0, 0) ! -1", "fault(0) ! -1", "feed(0x20202020, 0x20000000, 0, 0, 0) = 200", "fault(0) ! -1", "orders() = 0", "asks(0, 1, 0) ! 9", "why(0, 1) ! " + ((1 << 28) - 1), "count(13) ! 0");
  }

  static void end() {
    Run.of(due, "promise 27", "end(0) ! true", "end(1) ! false", "end(-1) ! false", "text 1=1?p1;2", "end(8) ! true", "end(9) ! false", "end(-1) ! false", "end(MIN) ! false", "end(MAX) ! false", "count(13) ! 8", "fault(0) ! 8", "end(7) = true", "count(13) ! 7", "end(8) ! false",
        "end(6) = true", "fault(0) ! -1", "feed(0x6c320000, 0, 0, 0, 0) = 8", "orders() = 0", "asks(0, 1, 0) ! 1", "asks(0, 1, 2) ! 2", "end(0) ! true", "end(1) ! false", "text 1=1", "end(0) = true", "count(13) ! 0", "fault(1) ! 0");
  }

  static void faultSorts() {
    Run.of(due, "promise 28", "fault(0) ! 0", "fault(1) ! 0", "fault(2) ! 0", "fault(-1) ! -2", "fault(3) ! -2", "fault(MIN) ! -2", "fault(MAX) ! -2", "text 1=1", "fault(0) ! 3", "fault(1) ! -1", "fault(2) ! 3", "fault(3) ! -2", "fault(-1) ! -2", "text 1=1?p1", "fault(0) ! -1", "fault(1) ! 3",
        "fault(2) ! 4", "text 1=1?1", "fault(0) ! 4", "fault(1) ! 3", "fault(2) ! -1");
  }

  // Each beginning of a text ends too early, at its length, unless it is a text itself.
  static void endsTooEarly() {
    beginnings("!([w+1]*2=h|k<3&f>0)?p1s2;o=1?m9", 0, 23, 25, 32);
    beginnings("!(v=1)&b>9|[e]=0", 1, 6, 10, 16);
    // The code may have one digit, two or three.
    beginnings("s=1?7;(l>30)?123", 2, 5, 14, 15, 16);
  }

  static void beginnings(String text, int sort, int... whole) {
    CityBrigade x = new CityBrigade();
    for (int n = 0; n <= text.length(); n++) {
      int at = n;
      boolean is = Arrays.stream(whole).anyMatch(w -> w == at);
      due.part("promise 28, too early");
      due.is("'" + text.substring(0, n) + "' as " + sort, Due.fault(x, text.substring(0, n), sort), is ? -1 : n);
    }
  }

  static void faults(String part, int sort, Object... pairs) {
    due.part(part);
    for (int i = 0; i < pairs.length; i += 2) {
      CityBrigade x = new CityBrigade();
      due.is("'" + pairs[i] + "' as " + sort, Due.fault(x, (String) pairs[i], sort), (Integer) pairs[i + 1]);
    }
  }

  static void digits() {
    faults("1 to 4 digits", 0, "1=w?p1", -1, "12=w?p1", -1, "123=w?p1", -1, "1234=w?p1", -1, "12345=w?p1", 4, "w=1234?p1", -1, "w=12345?p1", 6, "w=00000?p1", 6, "w=0000?p1", -1, "[9999]=w?p1", -1, "[99999]=w?p1", 5, "w+1*1234-5678=0?p1", -1, "w+1*1234-56789=0?p1", 13, "w=1234 5?p1", 7,
        "123456789", 4, "w=1?p12", 6, "w=1?p1 2", 7);
    faults("1 to 4 digits", 1, "v=1234", -1, "v=12345", 6, "v=123456", 6);
    faults("a CODE of 1 to 3 digits", 2, "s=1?0", -1, "s=1?00", -1, "s=1?000", -1, "s=1?0000", 7, "s=1?999", -1, "s=1?1234", 7, "s=1?123 4", 8, "s=1?1 23", 6, "s=1?123;r=1?4567", 15, "s=1234?1", -1, "s=12345?1", 6, "s=1?", 4, "s=1?;", 4);
    // Numbers of four digits are so much; codes of three digits, too.
    Run.of(due, "9,999 and 999", "house(0, 0, 1, 1, -1) = 0", "text 9999=9998+1?999;9999>9998?0;0000=0?007;0=1?5", "act(1) = 0", "fails(0, 0) ! 3", "code(0, 0, 0) ! 999", "code(0, 0, 1) ! 0", "code(0, 0, 2) ! 7");
  }

  static void depths() {
    faults("eight within one another", 0, "!!!!!!!!w=1?p1", -1, "!!!!!!!!!w=1?p1", 8, "((((((((w=1))))))))?p1", -1, "(((((((((w=1)))))))))?p1", 8, "[[[[[[[[w]]]]]]]]=1?p1", -1, "[[[[[[[[[w]]]]]]]]]=1?p1", 8, "w=[[[[[[[[1]]]]]]]]?p1", -1, "w=[[[[[[[[[1]]]]]]]]]?p1", 10,
        "!(!(!(!([w]=1))))?p1", 8, "!(!(!(!(w=1))))?p1", -1, "!(!(!([[w]]=1)))?p1", -1, "((((((((!", 8, "!!!!!!!!(", 8, "!!!!!!!![", 8, "[[[[[[[[[", 8, "(((((((([", 8, "!!!!!!!!!", 8, "(((((((((", 8,
        // What is closed is not within any more; behind ! a unit alone is within.
        "((((((((w=1)&!w=2)))))))?p1", -1, "!!!!!!!!w=1&!!!!!!!!w=2|((((((((w=3))))))))?p1", -1, "[[[[[[[[1]+[w]]]]]]]]=1?p1", -1, "[[[[[[[[1+[w]]]]]]]]]=1?p1", 10, "!!!!!!!w=[1]?p1", -1, "!!!!!!!!w=[1]?p1", 10, "!!!!!!!!w=1?p1;!!!!!!!!w=2?p1", -1,
        " ( ( ( ( ( ( ( ( ( ", 17);
    faults("eight within one another", 1, "!!!!!!!!v=1", -1, "!!!!!!!!!v=1", 8, "!!!!((((v=1))))", -1, "!!!!((((!v=1))))", 8);
    faults("eight within one another", 2, "((((((((s=1))))))))?1", -1, "(((((((((s=1)))))))))?1", 8);
    // They say what they say.
    Run.of(due, "eight within one another", "text !!!!!!!!w=1?p1;((((((((w=2))))))))?p2;[[[[[[[[w]]]]]]]]=3?p3;!(!(!([[w]]=1)))?p4", "orders() = 0", "asks(0, 1, 0) ! 1", "asks(0, 2, 0) ! 6", "asks(0, 3, 0) ! 7");
  }

  static void blanks() {
    faults("blanks", 0, " ", 1, "                    ", 20, "w=1?p1 ", -1, " w=1?p1", -1, "w = 1 ? p 1 ; ! ( [ w ] + 1 > 2 ) & h < 3 | k = 0 ? m 0 s 1", -1, "1 2=w?p1", 2, "w=1 1?p1", 4, "w=1?p1  ;", 9, "w=1?p1; ", 8, "w=1? ", 5, "w=1?p ", 6, "w = ", 4, "! ", 2, "w= =1?p1", 3, "w =1?p1\n", 7, "w=1?p1\t", 6);
    faults("blanks", 1, " v = 1 ", -1, "v=1 v", 4, "v=1  ;", 5);
    faults("blanks", 2, " s = 1 ? 1 ", -1, "s=1?1 2", 6, "s=1?1 ;s=2? 2 ", -1);
  }

  // Each of the letters, and none beside them, in each sort of text.
  static void letters() {
    due.part("letters");
    String[] sets = {"whfkapslco", "vbetmg", "srukgxwydnl"};
    String[] ends = {"=1?p1", "=1", "=1?1"};
    CityBrigade x = new CityBrigade();
    for (int sort = 0; sort < 3; sort++) for (char c = 'A'; c <= 'z'; c++) {
      if (c == '[') continue;
      boolean is = sets[sort].indexOf(c) >= 0;
      due.is("letter " + c + " as " + sort, Due.fault(x, c + ends[sort], sort), is ? -1 : 0);
    }
    for (char c = 'a'; c <= 'z'; c++) due.is("action " + c, Due.fault(x, "w=1?" + c + "1", 0), "pslcm".indexOf(c) >= 0 ? -1 : 4);
  }

  // Which bytes can go on behind some beginnings: of all 255.
  static void eachByte() {
    String digits = "0123456789";
    goesOn("", 0, " !([whfkapslco" + digits);
    goesOn("", 1, " !([vbetmg" + digits);
    goesOn("", 2, " !([srukgxwydnl" + digits);
    goesOn("!", 0, " !([whfkapslco" + digits);
    goesOn("(", 0, " !([whfkapslco" + digits);
    goesOn("[", 0, " [whfkapslco" + digits);
    goesOn("w", 0, " =<>+-*");
    goesOn("w ", 0, " =<>+-*");
    goesOn("1", 0, " =<>+-*" + digits);
    goesOn("1234", 0, " =<>+-*");
    goesOn("[w", 0, " ]+-*");
    goesOn("[1", 0, " ]+-*" + digits);
    goesOn("[w]", 0, " =<>+-*");
    goesOn("w=", 0, " [whfkapslco" + digits);
    goesOn("w+", 0, " [whfkapslco" + digits);
    goesOn("w*", 0, " [whfkapslco" + digits);
    goesOn("w=h", 0, " +-*&|?");
    goesOn("w=1", 0, " +-*&|?" + digits);
    goesOn("(w=h", 0, " +-*&|)");
    goesOn("(w=h)", 0, " &|?");
    goesOn("!w=h", 0, " +-*&|?");
    goesOn("w=h&", 0, " !([whfkapslco" + digits);
    goesOn("w=h|", 0, " !([whfkapslco" + digits);
    goesOn("w=h?", 0, " pslcm");
    goesOn("w=h?p", 0, " " + digits);
    goesOn("w=h?p1", 0, " ;pslcm");
    goesOn("w=h?p1;", 0, " !([whfkapslco" + digits);
    goesOn("v=b", 1, " +-*&|");
    goesOn("(v=b)", 1, " &|");
    goesOn("s=r?", 2, " " + digits);
    goesOn("s=r?1", 2, " ;" + digits);
    goesOn("s=r?12", 2, " ;" + digits);
    goesOn("s=r?123", 2, " ;");
    goesOn("s=r?1 ", 2, " ;");
    goesOn("!!!!!!!!", 0, " whfkapslco" + digits);
    goesOn("((((((((", 0, " whfkapslco" + digits);
    goesOn("[[[[[[[[", 0, " whfkapslco" + digits);
  }

  static void goesOn(String beginning, int sort, String signs) {
    due.part("bytes that go on");
    CityBrigade x = new CityBrigade();
    for (int b = 1; b < 256; b++) {
      int fault = Due.fault(x, beginning + (char) b, sort);
      due.is("'" + beginning + "' and byte " + b + " as " + sort + ": fault " + fault, fault != beginning.length(), signs.indexOf(b) >= 0);
    }
  }

  static void twentyOrders() {
    List<String> lines = new ArrayList<>(List.of("orders() ! -1", "text 1=1?p", "orders() ! -1", "count(13) ! 5", "count(12) ! 0"));
    for (int i = 0; i < 19; i++) {
      lines.add("text 1=1?p" + i % 10);
      lines.add("orders() = " + i);
    }
    run("promise 29", lines, "count(12) ! 19", "asks(0, 1, 0) ! 8", "text 1=1?p", "orders() ! -1", "text 1=1?p9", "orders() = 19", "count(12) ! 20", "count(13) ! 0", "orders() ! -1", "asks(0, 1, 0) ! 9", "text 1=1?p1", "fault(0) ! -1", "orders() ! -1", "count(13) ! 6", "count(12) ! 20", "asks(0, 1, 0) ! 9",
        // LEAVING and ACTS are none of them.
        "text v=1", "leaving() = true", "text s=1?1", "act(1) = 0", "count(12) ! 20");
  }

  static void leaving() {
    Run.of(due, "promise 30", "leaving() ! false", "text v=1?", "leaving() ! false", "count(13) ! 4", "end(3) = true", "leaving() = true", "count(13) ! 0", "leaving() ! false", "text v=1;", "leaving() ! false", "text w=1", "leaving() ! false", "text v=12345", "leaving() ! false", "text 1=1?p1", "leaving() ! false",
        "orders() = 0");
    // None at first: never. A refused one leaves the one before in force.
    Run.of(due, "promise 30, none at first", "main(100) = 0", "head(0, 0) = 0", "house(0, 2, 1, 1, -1) = 0", "floor(0, 0, 500, 0) = true", "crew(0, 0, false, 100, 1) = 0", "text 1=1?p1", "orders() = 0", "light(0, 0) = true", "call(0) = 0", "tick(1) = 1", "about(0, 8) ! 10", "about(0, 5) ! 0", "text 1=1", "leaving() = true",
        "tick(1) = 2", "about(0, 8) ! 5", "about(0, 5) ! -1", "text 1=2;", "leaving() ! false", "tick(1) = 3", "about(0, 8) ! 5", "text 1=2", "leaving() = true", "tick(1) = 4", "about(0, 8) ! 10", "about(0, 5) ! 0");
  }

  static void says(String condition, boolean want) {
    Run.of(due, "bounded: " + condition, "text " + condition + "?p1", "orders() = 0", "why(0, 2) ! " + (want ? 1 : 0));
  }

  // A million is written 1000*1000, as a number has four digits; w is 2.
  static void bounded() {
    says("999*1001+1=1000*1000", true);
    says("999*1001<1000*1000", true);
    says("1000*1000-999*1001=1", true);
    says("1000*1000+1-1=999*1001", true);
    says("1000*1000+9999-1=999*1001", true);
    says("1000*1001-1=999*1001", true);
    says("9999*9999=1000*1000", true);
    says("9999*9999-9999*9999=0", true);
    says("9999*9999*0=0", true);
    says("0*9999*9999=0", true);
    says("0-1000*1000-1+1=1-1000*1000", true);
    says("0-1000*1000+1-1=0-1000*1000", true);
    says("0-999*1001-1=0-1000*1000", true);
    says("0-999*1001-2=0-1000*1000", true);
    says("0-999*1001>0-1000*1000", true);
    says("[0-9999]*9999=0-1000*1000", true);
    says("[0-1000*1000]*[0-1000*1000]=1000*1000", true);
    says("[0-1000*1000]*[1000*1000]=0-1000*1000", true);
    says("[1000*1000+1000*1000]=1000*1000", true);
    says("1000*1000+[1-2]=999*1001", true);
    says("w*500*1000=1000*1000", true);
    says("w*500*1000+w-w=999*1001-1", true);
  }

  /** All sixteen ways in which four units can hold or not: & binds before |, ! before both, ( ) before all. */
  static void truths() {
    String[] units = {"w=3", "w=2"};
    for (int bits = 0; bits < 16; bits++) {
      boolean a = (bits & 1) > 0, b = (bits & 2) > 0, c = (bits & 4) > 0, d = (bits & 8) > 0;
      String p = units[a ? 1 : 0], q = units[b ? 1 : 0], r = units[c ? 1 : 0], s = units[d ? 1 : 0];
      says(p + "|" + q + "&" + r + "|" + s, a || b && c || d);
      says(p + "&" + q + "|" + r + "&" + s, a && b || c && d);
      says("(" + p + "|" + q + ")&(" + r + "|" + s + ")", (a || b) && (c || d));
      says("!" + p + "&" + q + "|!" + r + "&" + s, !a && b || !c && d);
      says("!(" + p + "&" + q + ")|!!(" + r + "&!" + s + ")", !(a && b) || c && !d);
    }
    // One less, the same, one more: = < >; * binds before + and -, which go from the left; [ ] before all.
    String[] less = {"1", "2", "3"};
    for (int i = 0; i < 3; i++) {
      says("w=" + less[i], i == 1);
      says("w<" + less[i], i == 2);
      says("w>" + less[i], i == 0);
    }
    says("9-w-3=4", true);
    says("9-[w-3]=10", true);
    says("9-w+3=10", true);
    says("9-w*3=3", true);
    says("[9-w]*3=21", true);
    says("1+w*3+4*w-1=14", true);
    says("w*w*w=8", true);
    says("0-w<0", true);
    says("0-w>0-3", true);
  }

  // 200 bytes that all can go on and are no text; 200 that are one.
  static void full() {
    StringBuilder whole = new StringBuilder("1=1");
    while (whole.length() < 199) whole.append("&1=1");
    faults("200 bytes", 1, whole.toString(), -1, whole + "&", 200, whole + " ", -1, whole + "?", 199);
    StringBuilder blanks = new StringBuilder("w=1?p1");
    while (blanks.length() < 200) blanks.insert(3, ' ');
    Run.of(due, "200 bytes, blanks", "text " + blanks, "count(13) ! 200", "fault(0) ! -1", "orders() = 0", "asks(0, 1, 0) ! 1");
    StringBuilder ones = new StringBuilder("1");
    for (int i = 0; i < 95; i++) ones.append("+1");
    Run.of(due, "200 bytes, a long sum", "text " + ones + "=96?p1", "count(13) ! 197", "feed(0x20202000, 0, 0, 0, 0) = 200", "orders() = 0", "why(0, 1) ! 1");
  }
}
