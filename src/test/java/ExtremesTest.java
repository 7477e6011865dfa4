import java.lang.reflect.Method;
import java.lang.reflect.Modifier;
import java.util.NoSuchElementException;
import java.util.Random;

/**
 * Every call with arguments far out and on the edges, in many states: nothing is thrown but the
 * NoSuchElementException of about; and what is refused changes nothing.
 */
public final class ExtremesTest {
  static final Due due = new Due();
  static final int[] EDGES = {Integer.MIN_VALUE, Integer.MIN_VALUE + 1, -1_000_001, -1_000_000, -300, -3, -2, -1, 0, 1, 2, 3, 4, 5, 6, 7, 8, 9, 10, 11, 12, 13,
      15, 16, 19, 20, 21, 23, 24, 31, 32, 33, 39, 40, 41, 50, 59, 60, 64, 99, 100, 101, 150, 200, 201, 299, 300, 301, 400, 500, 501, 600,
      1000, 2000, 3000, 20_000, 30_000, 1_000_000, 1_048_575, 1_048_576, 1 << 30, Integer.MAX_VALUE - 600, Integer.MAX_VALUE};

  public static void main(String[] args) throws Exception {
    Random random = new Random(7);
    for (int round = 0; round < 400; round++) onOne(random);
    texts(random);
    refusedChangesNothing();
    due.over();
  }

  static CityBrigade filled(Random random) {
    CityBrigade x = new CityBrigade();
    if (random.nextInt(5) == 0) return x;
    int corners = 2 + random.nextInt(18);
    for (int i = 0; i < 30; i++) x.street(random.nextInt(corners), random.nextInt(corners), 1 + random.nextInt(20));
    for (int i = 0; i < 12; i++) {
      x.house(random.nextInt(corners), random.nextInt(3), 1 + random.nextInt(6), 1 + random.nextInt(4), -1);
      for (int f = 0; f < 6; f++) x.floor(i, f, random.nextInt(501), random.nextInt(21));
      if (random.nextBoolean()) x.light(i, random.nextInt(4));
    }
    for (int i = 0; i < 6; i++) x.main(10 + random.nextInt(500));
    for (int i = 0; i < 20; i++) x.head(random.nextInt(corners), random.nextInt(6));
    for (int i = 0; i < 16; i++) {
      x.crew(random.nextInt(4), random.nextInt(corners), random.nextBoolean(), 50 + random.nextInt(101), 1 + random.nextInt(9));
      x.gear(i, 100 + random.nextInt(2901), 10 + random.nextInt(491), 0);
      x.gear(i, 100 + random.nextInt(2901), 10 + random.nextInt(491), 1 + random.nextInt(30));
      x.gear(i, 1 + random.nextInt(6), 0, 0);
    }
    Due.orders(x, "1=1?p2s1l2c1m3;w>1?p9s9m9");
    Due.act(x, "s>2?1;r>2?22;l>3?333", 1);
    Due.leaving(x, "b>80");
    for (int i = 0; i < 6; i++) x.row(i % 4);
    return x;
  }

  static void onOne(Random random) throws Exception {
    CityBrigade x = filled(random);
    Method[] methods = CityBrigade.class.getDeclaredMethods();
    for (int i = 0; i < 300; i++) {
      Method m = methods[random.nextInt(methods.length)];
      if (!Modifier.isPublic(m.getModifiers())) continue;
      Class<?>[] types = m.getParameterTypes();
      Object[] given = new Object[types.length];
      for (int k = 0; k < types.length; k++) {
        if (types[k] == boolean.class) given[k] = random.nextBoolean();
        else given[k] = random.nextInt(3) == 0 ? random.nextInt(24) - 1 : EDGES[random.nextInt(EDGES.length)];
      }
      try {
        m.invoke(x, given);
      } catch (java.lang.reflect.InvocationTargetException e) {
        boolean fine = m.getName().equals("about") && e.getCause() instanceof NoSuchElementException;
        due.yes(m.getName() + java.util.Arrays.toString(given) + " threw " + e.getCause(), fine);
      }
    }
    due.yes("all went on", true);
  }

  // Random bytes as texts, the dear ones that nest or go on for long, too.
  static void texts(Random random) {
    String signs = "0123456789whfkapslcovbetmgsrukgxwydnl()[]!?&|=<>+-*;  ";
    for (int i = 0; i < 3000; i++) {
      CityBrigade x = new CityBrigade();
      StringBuilder s = new StringBuilder();
      int n = random.nextInt(201);
      String some = random.nextBoolean() ? signs : "(![" + signs.charAt(random.nextInt(signs.length()));
      while (s.length() < n) s.append(some.charAt(random.nextInt(some.length())));
      Due.feed(x, s.toString());
      for (int sort = 0; sort < 3; sort++) {
        int fault = x.fault(sort);
        due.yes("a fault within the text", fault >= -1 && fault <= n);
      }
    }
  }

  static String seen(CityBrigade x) {
    StringBuilder s = new StringBuilder();
    for (int i = 0; i < 17; i++) s.append(x.count(i)).append(' ');
    for (int h = 0; h < 12; h++) {
      for (int w = 0; w < 7; w++) s.append(x.housed(h, w)).append(' ');
      for (int f = 0; f < 6; f++) for (int w = 0; w < 4; w++) s.append(x.floored(h, f, w)).append(' ');
      for (int r = 0; r < 24; r++) for (int w = 0; w < 3; w++) s.append(x.room(h, r, w)).append(' ');
      s.append(x.used(h, 0)).append(x.fails(h, 0)).append(' ');
    }
    for (int c = 0; c < 16; c++) for (int w = 0; w < 9; w++) s.append(x.about(c, w)).append(' ');
    for (int c = 0; c < 20; c++) for (int d = 0; d < 20; d++) s.append(x.come(c, d, 0, 100)).append(x.feet(c, d)).append(' ');
    for (int r = 0; r < 6; r++) s.append(x.judge(r, 1048575, 20)).append(' ');
    for (int w = 0; w < 5; w++) s.append(x.asks(0, 2, w)).append(' ');
    for (int c = 0; c < 20; c++) for (int w = 0; w < 8; w++) s.append(x.called(c, w)).append(' ');
    return s.toString();
  }

  static void refusedChangesNothing() throws Exception {
    due.part("refused calls change nothing");
    Random random = new Random(11);
    CityBrigade x = filled(new Random(3));
    due.is("a filled one", x.count(3), 16);
    x.call(0);
    x.tick(5);
    x.call(1);
    String before = seen(x);
    for (Method m : CityBrigade.class.getDeclaredMethods()) {
      if (!Modifier.isPublic(m.getModifiers())) continue;
      Class<?>[] types = m.getParameterTypes();
      if (types.length == 0 || m.getName().equals("feed")) continue;
      for (int i = 0; i < 40; i++) {
        Object[] given = new Object[types.length];
        for (int k = 0; k < types.length; k++) given[k] = types[k] == boolean.class ? (Object) random.nextBoolean() : (Object) random.nextInt(3);
        given[0] = random.nextBoolean() ? -5 - random.nextInt(1000) : 1_000_001 + random.nextInt(1000);
        Object answer = null;
        try {
          answer = m.invoke(x, given);
        } catch (java.lang.reflect.InvocationTargetException e) {
          due.yes(m.getName() + " throws", m.getName().equals("about"));
          continue;
        }
        String want = m.getReturnType() == boolean.class ? "false" : m.getReturnType() == double.class ? "NaN" : "-1";
        if (m.getName().equals("fault")) want = "-2";
        if (m.getName().equals("copy")) want = "1";
        due.yes(m.getName() + java.util.Arrays.toString(given) + " answered " + answer, want.equals("" + answer));
      }
    }
    due.yes("all is as it was", before.equals(seen(x)));
  }
}
