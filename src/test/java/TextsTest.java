/** Promises 26 to 30: the tape, faults, orders, leaving; and what a text's condition says. */
public final class TextsTest {
  static final Due due = new Due();

  public static void main(String[] args) {
    feed();
    end();
    fault();
    faultsOfOrders();
    faultsOfLeaving();
    faultsOfActs();
    depths();
    orders();
    leaving();
    conditions();
    bounds();
    due.over();
  }

  static void feed() {
    due.part("promise 26");
    CityBrigade x = new CityBrigade();
    due.is("nothing", x.feed(0, 0, 0, 0, 0), 0);
    due.is("zeros are left out", x.feed(0x31000000, 0x00003d00, 0, 0x00000031, 0x003f0070), 5);
    due.is("the highest first: 1=1?p", x.fault(0), 5);
    due.is("the digit", x.feed(0x31, 0, 0, 0, 0), 6);
    due.none("no fault", x.fault(0));
    x.end(0);
    due.is("bytes above 127", x.feed(-1, -1, -1, -1, -1), 20);
    due.is("such a byte is a fault", x.fault(0), 0);
    for (int i = 2; i <= 10; i++) due.is("feed " + i, x.feed(-1, -1, -1, -1, -1), 20 * i);
    due.none("more than 200", x.feed(0, 0, 0, 0, 1));
    due.is("count(13)", x.count(13), 200);
    due.is("nothing more", x.feed(0, 0, 0, 0, 0), 200);
    for (int word = 0; word < 5; word++) {
      x.end(197);
      int[] v = new int[5];
      v[word] = -1;
      due.none("four more in number " + word, x.feed(v[0], v[1], v[2], v[3], v[4]));
      v[word] = 0x00414141;
      due.is("three more in number " + word, x.feed(v[0], v[1], v[2], v[3], v[4]), 200);
    }
    due.yes("end(190)", x.end(190));
    due.none("eleven more", x.feed(-1, -1, 0x00010101, 0, 0));
    due.is("all or nothing", x.count(13), 190);
    due.is("ten more", x.feed(-1, -1, 0x00000101, 0, 0), 200);
  }

  static void end() {
    due.part("promise 27");
    CityBrigade x = new CityBrigade();
    due.no("end(1) of an empty tape", x.end(1));
    due.yes("end(0) of an empty tape", x.end(0));
    Due.feed(x, "1=1?p1;1");
    due.no("end(-1)", x.end(-1));
    due.no("end(9)", x.end(9));
    due.yes("end(8)", x.end(8));
    due.is("count(13)", x.count(13), 8);
    due.yes("end(6)", x.end(6));
    due.is("count(13)", x.count(13), 6);
    due.none("the first six alone", x.fault(0));
    due.no("end(7)", x.end(7));
    due.is("more comes behind them", Due.feed(x, "l1"), 8);
    due.is("as orders", x.orders(), 0);
    due.is("asks(0, 1, 2)", x.asks(0, 1, 2), 1);
  }

  static void fault() {
    due.part("promise 28");
    CityBrigade x = new CityBrigade();
    due.is("sort -1", x.fault(-1), -2);
    due.is("sort 3", x.fault(3), -2);
    for (int sort = 0; sort < 3; sort++) due.is("an empty tape as " + sort, x.fault(sort), 0);
    Due.feed(x, "1=1?p1");
    due.none("as orders", x.fault(0));
    due.is("as leaving", x.fault(1), 3);
    due.is("as an act", x.fault(2), 4);
    due.is("the tape stays", x.count(13), 6);
  }

  static void all(CityBrigade x, int sort, Object... pairs) {
    for (int i = 0; i < pairs.length; i += 2) {
      due.is("'" + pairs[i] + "' as " + sort, Due.fault(x, (String) pairs[i], sort), (Integer) pairs[i + 1]);
    }
  }

  static void faultsOfOrders() {
    due.part("faults of orders");
    CityBrigade x = new CityBrigade();
    all(x, 0, "w", 1, "w=", 2, "w=1", 3, "w=1?", 4, "w=1?p", 5, "w=1?p1", -1, "w=1?p1;", 7, "w=1?p1;;", 7, ";", 0, "?p1", 0);
    all(x, 0, "w=1?p1s2l3c4m5", -1, "w=1?p12", 6, "w=1?p1x", 6, "w=1?x1", 4, "w=1?1", 4, "w=1?pp", 5, "w=1?p1 s", 8, "w=1?h1", 4, "w=1?P1", 4);
    all(x, 0, "w=1?p1;h>6?l1", -1, "w=1?p1 h>6?l1", 7, "w=1?p1;h>6", 10, "w=1p1", 3, "w=1??", 4);
    all(x, 0, "w==1?p1", 2, "w=1=1?p1", 3, "w<=1?p1", 2, "w>>1?p1", 2, "w+1?p1", 3, "w?p1", 1, "=1?p1", 0, "w=?p1", 2);
    all(x, 0, "w+=1?p1", 2, "+w=1?p1", 0, "-1=w?p1", 0, "w--1=0?p1", 2, "w*-1=0?p1", 2, "w+h-f*k=a+p-s*l+c-o?p1", -1, "w/2=1?p1", 1);
    all(x, 0, "1=1|w=1?p1", -1, "1=1&w=1?p1", -1, "1=1||w=1?p1", 4, "1=1|?p1", 4, "1=1&|w=1?p1", 4, "|1=1?p1", 0);
    all(x, 0, "(w=1)?p1", -1, "(w=1?p1", 4, "w=1)?p1", 3, "((w=1)&h=2|!k=0)?p1", -1, "(w)=1?p1", 2, "()?p1", 1, "(w=1)(h=1)?p1", 5, "(w=1)=1?p1", 5, "(w=1)+1=1?p1", 5);
    all(x, 0, "[w]=1?p1", -1, "[w=1]?p1", 2, "[w+1]*[h-2]=1?p1", -1, "[]=1?p1", 1, "[w=1?p1", 2, "w]=1?p1", 1, "[(w)]=1?p1", 1, "[w)=1?p1", 2, "([w]=1)?p1", -1, "[!w]=1?p1", 1);
    all(x, 0, "!w=1?p1", -1, "!!w=1?p1", -1, "w=!1?p1", 2, "!?p1", 1, "!(w=1)&!h=1?p1", -1, "w!=1?p1", 1);
    all(x, 0, "1234=w?p1", -1, "12345=w?p1", 4, "w=0000?p1", -1, "w=00000?p1", 6, "w=9999?p1;1=12345?p1", 16);
    all(x, 0, "w h=1?p1", 2, "wh=1?p1", 1, "1w=1?p1", 1, "w1=1?p1", 1, "12 34=w?p1", 3, "1 =1?p1", -1, "v=1?p1", 0, "b=1?p1", 0, "W=1?p1", 0, "x=1?p1", 0, "d=1?p1", 0);
    all(x, 0, " w = 1 ? p 1 ; ! ( h < [ 2 + f ] ) ? m 3 c 4 ", -1, "   ", 3, "w=1?p1   ", -1, "w=1?p   ", 8, "w=1?   ", 7, "w=1?p1 ; ", 9, "w=1?p\t1", 5, "w=1?p1 2", 7);
  }

  static void faultsOfLeaving() {
    due.part("faults of leaving");
    CityBrigade x = new CityBrigade();
    all(x, 1, "v=1", -1, "v=1?", 3, "v=1;", 3, "v", 1, "v=", 2, "v=1 ", -1, "  v=1", -1, "v+b*e-t=m+g", -1, "w=1", 0, "v=1&h=1", 4, "(v=1", 4, "(v=1)", -1, "!v=1", -1, "!(v=1", 5, "!", 1);
    all(x, 1, "v=12345", 6, "v=1234", -1, "v=1|b>2&e<3", -1, "v=1|", 4, "[v", 2, "[v]", 3, "[v]=[1]", -1, "[v]=[1", 6, "v=1)", 3, "p=1", 0, "s=1", 0);
  }

  static void faultsOfActs() {
    due.part("faults of acts");
    CityBrigade x = new CityBrigade();
    all(x, 2, "s=1?1", -1, "s=1?12", -1, "s=1?123", -1, "s=1?1234", 7, "s=1?", 4, "s=1", 3, "s=1?p1", 4, "s=1?1;", 6, "s=1?1;r=2?999", -1, "s=1?1 2", 6, "s=1? 1 ", -1, "s=1?1p1", 5);
    all(x, 2, "s+r+u+k+g+x+w+y+d+n+l=0?000", -1, "a=1?1", 0, "h=1?1", 0, "c=1?1", 0, "s=12345?1", 6, "s=1?12;;", 7, "s=1?1;r=2?1000", 13, "!(s=1)?7", -1, "s=1?1,2", 5);
  }

  static void depths() {
    due.part("eight within one another");
    CityBrigade x = new CityBrigade();
    all(x, 0, "!!!!!!!!w=1?p1", -1, "!!!!!!!!!w=1?p1", 8, "((((((((w=1))))))))?p1", -1, "(((((((((w=1)))))))))?p1", 8);
    all(x, 0, "[[[[[[[[w]]]]]]]]=1?p1", -1, "[[[[[[[[[w]]]]]]]]]=1?p1", 8, "!(!(!([[w]]=1)))?p1", -1, "!(!(!([[[w]]]=1)))?p1", 8);
    all(x, 0, "!!!!!!!!w=[1]?p1", 10, "!!!!!!!w=[1]?p1", -1, "((((((((w=1))))))))&!w=1?p1", -1, "[[[[[[[[w]]]]]]]]=[[[[[[[[h]]]]]]]]?p1", -1);
    all(x, 0, "((((((((w=[1", 10, "((((((((w=1&!", 12, "((((((((w=1)&!h=1", 17, "!!!!!!!!w=1&!!!!!!!!h=1?p1", -1, "!!!!!!!!w=1&!!!!!!!!!h=1?p1", 20, "! ! ! ! ! ! ! ! !w=1?p1", 16);
    all(x, 1, "!!!!!!!!v=1", -1, "!!!!!!!!!v=1", 8);
    all(x, 2, "[[[[[[[[s]]]]]]]]=1?1", -1, "[[[[[[[[[s]]]]]]]]]=1?1", 8);
  }

  static void orders() {
    due.part("promise 29");
    CityBrigade x = new CityBrigade();
    due.none("an empty tape", x.orders());
    due.none("a fault", Due.orders(x, "1=1?p"));
    due.is("the tape stays", x.count(13), 5);
    due.is("count(12)", x.count(12), 0);
    due.is("asks(0, 1, 0)", x.asks(0, 1, 0), 0);
    Due.feed(x, "3");
    due.is("the first", x.orders(), 0);
    due.is("the tape is empty", x.count(13), 0);
    due.is("asks(0, 1, 0)", x.asks(0, 1, 0), 3);
    for (int i = 1; i < 20; i++) due.is("orders " + i, Due.orders(x, "1=1?p1"), i);
    due.none("the twenty-first", Due.orders(x, "1=1?p2"));
    due.is("the tape stays", x.count(13), 6);
    due.is("count(12)", x.count(12), 20);
    due.is("asks(0, 1, 0)", x.asks(0, 1, 0), 1);
    // 200 bytes.
    CityBrigade y = new CityBrigade();
    StringBuilder many = new StringBuilder("10=10?p0");
    while (many.length() < 196) many.append(";10=9+1?m0");
    while (many.length() < 200) many.append(' ');
    due.is("a text of 200 bytes", many.length(), 200);
    due.is("a text of 200 bytes", Due.orders(y, many.toString()), 0);
    due.is("its clauses", Integer.bitCount(y.why(0, 1)), 20);
  }

  static void leaving() {
    due.part("promise 30");
    CityBrigade x = new CityBrigade();
    due.no("an empty tape", x.leaving());
    due.no("a fault", Due.leaving(x, "v=1?p1"));
    due.is("the tape stays", x.count(13), 6);
    due.yes("a condition", Due.leaving(x, "v=1"));
    due.is("the tape is empty", x.count(13), 0);
    for (int i = 0; i < 30; i++) due.yes("as often as one likes", Due.leaving(x, "v=1"));
    due.is("they are no orders", x.count(12), 0);
  }

  /** Each condition as one clause of its own orders, with w 2 and f 5. */
  static void says(String condition, boolean want) {
    CityBrigade x = new CityBrigade();
    x.house(0, 0, 5, 1, -1);
    due.is("'" + condition + "' is a text", Due.orders(x, condition + "?p1"), 0);
    due.is("'" + condition + "'", x.why(0, 2), want ? 1 : 0);
  }

  static void conditions() {
    due.part("conditions");
    says("w=2", true);
    says("w=3", false);
    says("w<3", true);
    says("w<2", false);
    says("w>1", true);
    says("w>2", false);
    says("!w=2", false);
    says("!!w=2", true);
    says("!w=3&w=3", false);
    says("!(w=3&w=2)", true);
    says("w=2|w=3&w=4", true);
    says("(w=2|w=3)&w=4", false);
    says("w=3&w=4|w=2", true);
    says("w=3&(w=4|w=2)", false);
    says("w+f*w=12", true);
    says("[w+f]*w=14", true);
    says("f-w-1=2", true);
    says("f-[w-1]=4", true);
    says("f-w+1=4", true);
    says("w-f=0-3", true);
    says("w-f<0", true);
    says("0-3*w=0-6", true);
    says("f*w*f=50", true);
    says("1=1&1=1&1=2", false);
    says("1=2|1=2|1=1", true);
    says("007=7", true);
    says("[[w]]+[f*[w+1]]=17", true);
    says("!(!(!([[w]]=2)))", false);
    says("w=2&w=2|w=3", true);
    says("w<f&f>w", true);
  }

  static void bounds() {
    due.part("numbers are bounded");
    says("1000*1000=1000*1000", true);
    says("1000*1001=1000*1000", true);
    says("9999*9999-1=999*1000+999", true);
    says("9999*9999+1-1=999*1000+999", true);
    says("1000*1000+1=1000*1000", true);
    says("0-9999*9999=0-1000*1000", true);
    says("[0-9999*9999]*9999=0-1000*1000", true);
    says("0-1000*1000-1+1=1-1000*1000", true);
    says("[0-1000*1000]*[0-1000*1000]=1000*1000", true);
    says("[9999*9999]*[9999*9999]*0=0", true);
    says("999*1001=1000*1000-1", true);
    says("999*1001<1000*1000", true);
  }
}
