/** Promises 46 to 51: rows, put, lose, copy, judge, loss; promise 53: count. */
public final class RowsTest {
  static final Due due = new Due();
  static final double NAN = Double.NaN;

  public static void main(String[] args) {
    row();
    put();
    putFloats();
    lose();
    copy();
    copyWithin();
    judge();
    judgePoints();
    loss();
    count();
    due.over();
  }

  /** What a row has at a corner: by a judgement of that corner alone, within 0 minutes, by two points. */
  static double at(CityBrigade x, int row, int corner) {
    return x.judge(row, 1 << corner, 0) / 2;
  }

  static void row() {
    due.part("promise 46");
    CityBrigade x = new CityBrigade();
    due.none("row(-1)", x.row(-1));
    due.none("row(4)", x.row(4));
    for (int i = 0; i < 6; i++) due.is("row " + i, x.row(i % 4), i);
    due.none("the seventh", x.row(0));
    due.is("count(16)", x.count(16), 6);
    for (int i = 0; i < 6; i++) due.isDouble("at first", x.judge(i, 1048575, 100), 0);
  }

  static void put() {
    due.part("promise 47");
    CityBrigade x = new CityBrigade();
    due.no("without a row", x.put(0, 0, 1));
    for (int kind = 0; kind < 4; kind++) x.row(kind);
    due.no("row -1", x.put(-1, 0, 1));
    due.no("row 4", x.put(4, 0, 1));
    due.no("corner -1", x.put(0, -1, 1));
    due.no("corner 20", x.put(0, 20, 1));
    due.no("v above", x.put(2, 0, 1000001));
    due.no("v below", x.put(2, 0, -1000001));
    due.isDouble("nothing was put", x.judge(2, 1048575, 0), 0);
    int[][] values = {{0, 127, 127}, {0, 128, -128}, {0, 300, 44}, {0, -1000000, -64}, {0, 1000000, 64}, {0, -129, 127},
        {1, 32767, 32767}, {1, 32768, -32768}, {1, 1000000, 16960}, {1, -1000000, -16960}, {1, 70000, 4464},
        {2, 1000000, 1000000}, {2, -1000000, -1000000}, {2, 0, 0}};
    for (int[] v : values) {
      due.yes("put(" + v[0] + ", 19, " + v[1] + ")", x.put(v[0], 19, v[1]));
      due.isDouble("of kind " + v[0] + ": " + v[1], at(x, v[0], 19), v[2]);
    }
  }

  static void putFloats() {
    due.part("promise 47, floats");
    CityBrigade x = new CityBrigade();
    x.row(3);
    x.put(0, 5, 1);
    due.isDouble("1", at(x, 0, 5), 0.125);
    x.put(0, 5, -999999);
    due.isDouble("-999,999", at(x, 0, 5), -124999.875);
    x.put(0, 5, 1000000);
    due.isDouble("1,000,000", at(x, 0, 5), 125000);
    x.put(0, 5, -1000000);
    due.isDouble("-1,000,000 counts 1,000", at(x, 0, 5), 1000);
    x.put(0, 5, 0);
    due.isDouble("0", at(x, 0, 5), 0);
  }

  static void lose() {
    due.part("promise 48");
    CityBrigade x = new CityBrigade();
    due.no("without a row", x.lose(0));
    x.row(2);
    x.row(2);
    due.no("lose(-1)", x.lose(-1));
    due.no("lose(2)", x.lose(2));
    due.yes("lose(0)", x.lose(0));
    due.no("lose(0) again", x.lose(0));
    due.no("put into it", x.put(0, 0, 1));
    due.isDouble("judged by it", x.judge(0, 1, 0), NAN);
    due.isDouble("loss by it", x.loss(0, 1, 0, 0), NAN);
    due.yes("the other one is there", x.put(1, 0, 1));
    due.is("a new one has its own number", x.row(2), 2);
    due.is("count(16)", x.count(16), 3);
  }

  static void copy() {
    due.part("promise 49");
    CityBrigade x = new CityBrigade();
    due.is("without rows", x.copy(0, 0, 0, 0, 1), 1);
    x.row(2);
    x.row(2);
    x.row(3);
    x.row(2);
    x.row(3);
    x.lose(3);
    for (int c = 0; c < 20; c++) x.put(0, c, c + 1);
    due.is("from -1", x.copy(-1, 0, 1, 0, 1), 1);
    due.is("to 5", x.copy(0, 0, 5, 0, 1), 1);
    due.is("no such one, and lost", x.copy(3, 0, 5, 0, 1), 1);
    due.is("from a lost one", x.copy(3, 0, 1, 0, 1), 2);
    due.is("to a lost one", x.copy(0, 0, 3, 0, 1), 2);
    due.is("lost, and unlike", x.copy(2, 0, 3, 0, 1), 2);
    due.is("unlike kinds", x.copy(0, 0, 2, 0, 1), 3);
    due.is("unlike, and outside", x.copy(0, -1, 2, 0, 1), 3);
    int[][] outside = {{-1, 0, 1}, {0, -1, 1}, {0, 0, -1}, {20, 0, 1}, {0, 20, 1}, {1, 0, 20}, {0, 1, 20}, {0, 0, 21}, {21, 0, 0}, {0, 21, 0},
        {5, 0, Integer.MAX_VALUE}, {Integer.MAX_VALUE, 0, 5}, {0, Integer.MAX_VALUE, 1}, {Integer.MIN_VALUE, 0, 1}, {0, 0, Integer.MIN_VALUE}};
    for (int[] o : outside) due.is("outside: " + o[0] + ", " + o[1] + ", " + o[2], x.copy(0, o[0], 1, o[1], o[2]), 4);
    due.isDouble("nothing was copied", x.judge(1, 1048575, 0), 0);
    due.is("none at all", x.copy(0, 20, 1, 20, 0), 0);
    due.is("three", x.copy(0, 17, 1, 2, 3), 0);
    double[] want = {0, 0, 18, 19, 20, 0};
    for (int c = 0; c < 6; c++) due.isDouble("place " + c, at(x, 1, c), want[c]);
    due.is("all twenty", x.copy(0, 0, 1, 0, 20), 0);
    for (int c = 0; c < 20; c++) due.isDouble("place " + c, at(x, 1, c), c + 1);
    x.put(2, 1, -1000000);
    due.is("a NaN", x.copy(2, 0, 4, 3, 2), 0);
    due.isDouble("is a NaN there", at(x, 4, 4), 1000);
    due.isDouble("beside it", at(x, 4, 3), 0);
  }

  static void copyWithin() {
    due.part("promise 49, within one");
    CityBrigade x = new CityBrigade();
    x.row(0);
    for (int c = 0; c < 20; c++) x.put(0, c, c);
    due.is("to the right", x.copy(0, 0, 0, 2, 5), 0);
    int[] right = {0, 1, 0, 1, 2, 3, 4, 7, 8};
    for (int c = 0; c < right.length; c++) due.isDouble("right, place " + c, at(x, 0, c), right[c]);
    for (int c = 0; c < 20; c++) x.put(0, c, c);
    due.is("to the left", x.copy(0, 2, 0, 0, 5), 0);
    int[] left = {2, 3, 4, 5, 6, 5, 6, 7};
    for (int c = 0; c < left.length; c++) due.isDouble("left, place " + c, at(x, 0, c), left[c]);
  }

  static void judge() {
    due.part("promise 50");
    CityBrigade x = new CityBrigade();
    due.isDouble("without a row", x.judge(0, 1, 0), NAN);
    x.row(2);
    x.put(0, 0, 5);
    due.isDouble("row -1", x.judge(-1, 1, 0), NAN);
    due.isDouble("row 1", x.judge(1, 1, 0), NAN);
    due.isDouble("corners -1", x.judge(0, -1, 0), NAN);
    due.isDouble("corners 1,048,576", x.judge(0, 1048576, 0), NAN);
    due.isDouble("limit -1", x.judge(0, 1, -1), NAN);
    due.isDouble("limit 101", x.judge(0, 1, 101), NAN);
    due.isDouble("no corner", x.judge(0, 0, 100), 0);
    due.isDouble("all corners", x.judge(0, 1048575, 100), 10);
    due.isDouble("corner 0", x.judge(0, 1, 0), 10);
    due.isDouble("corner 1", x.judge(0, 2, 100), 0);
  }

  static void judgePoints() {
    due.part("promise 50, points");
    CityBrigade x = new CityBrigade();
    x.street(0, 1, 4);
    x.street(1, 2, 5);
    x.row(2);
    x.put(0, 0, 1);
    x.put(0, 1, 10);
    x.put(0, 2, 100);
    x.call(2);
    due.isDouble("{0} within 3", x.judge(0, 1, 3), 2);
    due.isDouble("{0} within 4", x.judge(0, 1, 4), 22);
    due.isDouble("{0} within 8", x.judge(0, 1, 8), 22);
    due.isDouble("{0} within 9", x.judge(0, 1, 9), 222);
    due.isDouble("{0, 2} within 5", x.judge(0, 5, 5), 2 + 30 + 200);
    due.isDouble("{0, 1, 2} within 5", x.judge(0, 7, 5), 3 + 30 + 300);
    x.put(0, 2, -1000000);
    due.isDouble("less than nothing", x.judge(0, 1, 9), 2 + 20 - 2000000);
    x.closed(0, true);
    due.isDouble("closed or not", x.judge(0, 1, 4), 22);
  }

  static void loss() {
    due.part("promise 51");
    CityBrigade x = new CityBrigade();
    x.street(0, 1, 4);
    x.street(1, 2, 5);
    x.row(3);
    x.put(0, 0, 8);
    x.put(0, 1, 12);
    x.put(0, 2, -1000000);
    // 1, 1.5 and 1,000.
    due.isDouble("of corner 2 in {0, 2} within 5", x.loss(0, 5, 5, 2), (2 + 4.5 + 2000) - (2 + 3));
    due.isDouble("of corner 0 in {0, 2} within 5", x.loss(0, 5, 5, 0), 2 + 1.5);
    due.isDouble("of the only one", x.loss(0, 1, 0, 0), 2);
    due.isDouble("of one that is none of them", x.loss(0, 5, 5, 1), NAN);
    due.isDouble("corner -1", x.loss(0, 5, 5, -1), NAN);
    due.isDouble("corner 20", x.loss(0, 5, 5, 20), NAN);
    due.isDouble("corner 32", x.loss(0, 5, 5, 32), NAN);
    due.isDouble("row 1", x.loss(1, 5, 5, 0), NAN);
    due.isDouble("corners -1", x.loss(0, -1, 5, 0), NAN);
    due.isDouble("corners 1,048,577", x.loss(0, 1048577, 5, 0), NAN);
    due.isDouble("limit 101", x.loss(0, 5, 101, 0), NAN);
    due.isDouble("limit -1", x.loss(0, 5, -1, 0), NAN);
  }

  static void count() {
    due.part("promise 53");
    CityBrigade x = new CityBrigade();
    x.street(0, 1, 3);
    x.street(0, 1, 3);
    x.house(0, 0, 1, 1, -1);
    x.crew(3, 0, false, 100, 1);
    x.crew(2, 5, false, 100, 1);
    x.crew(2, 5, false, 100, 1);
    Due.orders(x, "1=1?c1p2");
    Due.orders(x, "1=1?c1p2");
    Due.act(x, "1=1?1", 1);
    Due.act(x, "1=1?1", 1);
    Due.act(x, "1=1?1", 1);
    Due.feed(x, "1=1");
    x.main(10);
    x.head(0, 0);
    x.head(0, 0);
    x.row(0);
    x.call(0);
    x.call(1);
    x.tick(1);
    x.floor(0, 0, 500, 5);
    x.light(0, 0);
    x.tick(5);
    // The call at corner 0 was false; at both two pumps lacked, at corner 1 the chief, too.
    int[] want = {6, 2, 1, 3, 2, 1, 1, 5, 0, 2, 0, 3, 2, 3, 1, 2, 1};
    for (int what = 0; what < want.length; what++) due.is("count(" + what + ")", x.count(what), want[what]);
    due.none("count(-1)", x.count(-1));
    due.none("count(17)", x.count(17));
  }
}
