import java.lang.management.ManagementFactory;
import java.lang.reflect.Array;
import java.lang.reflect.Field;
import java.lang.reflect.Modifier;
import java.util.ArrayDeque;
import java.util.Collections;
import java.util.IdentityHashMap;
import java.util.Set;

/** The room that an object takes: all its rows are made with it, and its calls make no more. */
public final class RoomTest {
  static final Due due = new Due();
  static long objects = 0;
  static long elements = 0;

  public static void main(String[] args) throws Exception {
    due.part("room");
    walk(new CityBrigade());
    System.out.println(objects + " objects and arrays, " + elements + " fields and elements");
    due.yes("some 300 objects at most", objects <= 300);
    due.yes("some 15,000 elements at most", elements <= 15_000);
    calls();
    due.over();
  }

  static void walk(Object root) throws Exception {
    Set<Object> seen = Collections.newSetFromMap(new IdentityHashMap<>());
    ArrayDeque<Object> open = new ArrayDeque<>();
    open.add(root);
    while (!open.isEmpty()) {
      Object o = open.poll();
      if (!seen.add(o)) continue;
      objects++;
      if (o.getClass().isArray()) {
        int n = Array.getLength(o);
        elements += n;
        if (!o.getClass().getComponentType().isPrimitive()) for (int i = 0; i < n; i++) {
          due.yes("no place of a row of objects is empty", Array.get(o, i) != null);
          open.add(Array.get(o, i));
        }
        continue;
      }
      for (Field f : o.getClass().getDeclaredFields()) {
        if (Modifier.isStatic(f.getModifiers())) continue;
        elements++;
        if (f.getType().isPrimitive() || f.getType() == String.class) continue;
        f.setAccessible(true);
        open.add(f.get(o));
      }
    }
  }

  static void calls() {
    com.sun.management.ThreadMXBean bean = (com.sun.management.ThreadMXBean) ManagementFactory.getThreadMXBean();
    long id = Thread.currentThread().getId();
    CityBrigade x = filled();
    dear(x);
    x = filled();
    bean.getThreadAllocatedBytes(id);
    long before = bean.getThreadAllocatedBytes(id);
    dear(x);
    long made = bean.getThreadAllocatedBytes(id) - before;
    System.out.println(made + " bytes are made by the dear calls");
    due.yes("hardly any", made < 4096);
  }

  static CityBrigade filled() {
    CityBrigade x = new CityBrigade();
    for (int i = 0; i < 40; i++) x.street(i % 20, (i * 7 + 1) % 20, 1 + i % 20);
    for (int i = 0; i < 12; i++) {
      x.house(i % 4, i % 3, 6, 4, 0);
      for (int f = 0; f < 6; f++) x.floor(i, f, 500, 20);
      x.light(i, i);
    }
    for (int i = 0; i < 6; i++) x.main(500);
    for (int i = 0; i < 20; i++) x.head(i, i % 6);
    for (int i = 0; i < 16; i++) x.crew(i % 4, i, true, 100, 5);
    for (int i = 0; i < 6; i++) x.row(i % 4);
    Due.orders(x, "1=1?p2s2l2c2m9");
    Due.leaving(x, "b>70&v>0");
    Due.act(x, "s>1?1;r>1?2;l>1?3", 1);
    return x;
  }

  static void dear(CityBrigade x) {
    for (int c = 0; c < 8; c++) x.call(c);
    for (int i = 0; i < 20; i++) x.tick(300);
    x.what(0, 0, 100, 200);
    x.plan(4, 10);
    x.planned(4, 10, 1);
    x.round(0, 500, 0);
    x.rounded(0, 500, 3);
    x.come(0, 19, 100, 100);
    x.judge(3, 1023, 10);
    x.loss(3, 1023, 10, 1);
    x.feed(0x313d313f, 0x70310000, 0, 0, 0);
    x.fault(0);
    x.orders();
    x.failing();
    x.asks(0, 1, 0);
    x.copy(0, 0, 4, 3, 9);
  }
}
