import java.util.ArrayList;
import java.util.Arrays;
import java.util.List;
import java.util.NoSuchElementException;
import java.util.Random;
import java.util.TreeSet;

/**
 * Random runs of calls on CityBrigade and on a model that is written plainly from the document, another way:
 * every answer must be the same. A run's seed is printed where it differs.
 */
public final class RandomRunsTest {
  static final int NONE = -1;

  // ------------------------------------------------------------------ the model

  static final class Street { int a, b, lasts; int[] jam = {100, 100, 100, 100}; boolean closed; }

  static final class Room { int heat, stuff; Room copy() { Room r = new Room(); r.heat = heat; r.stuff = stuff; return r; } }

  static final class House {
    int number, corner, kind, floors, rooms, shaft, wall, year = 1, use;
    boolean doors;
    Room[][] room;
    int[] burnt, people, told;
    boolean[] fallen;
    int saved, lost, gallons;

    House copy() {
      House h = new House();
      h.number = number; h.corner = corner; h.kind = kind; h.floors = floors; h.rooms = rooms; h.shaft = shaft;
      h.wall = wall; h.doors = doors;
      h.room = new Room[floors][rooms];
      for (int f = 0; f < floors; f++) for (int r = 0; r < rooms; r++) h.room[f][r] = room[f][r].copy();
      h.burnt = burnt.clone(); h.fallen = fallen.clone(); h.people = people.clone();
      return h;
    }
    boolean burns(int f, int r) { return room[f][r].heat >= 300 && room[f][r].stuff > 0 && !fallen[f]; }
    int burning() { int n = 0; for (int f = 0; f < floors; f++) for (int r = 0; r < rooms; r++) if (burns(f, r)) n++; return n; }
    int load(int f) { return f == 0 ? 0 : burnt[f] + 2 * burnt[f - 1]; }
    int falls() { return rooms * new int[] {60, 100, 140}[kind]; }
    int allBurnt() { return Arrays.stream(burnt).sum(); }
  }

  static final class Crew {
    int sort, home, slow, men, a, b, c, state, post, minute = NONE, call = NONE, house = NONE, floor = NONE, tired, got, began;
    boolean horses;
    int ask, main, targetF, targetR;
    boolean aims;
    int slowNow() { return slow + (horses ? tired / 3 : 0); }
    boolean hose() { return sort < 2; }
  }

  static final class Call { int corner, word, state, first, closed = NONE, sent, lacks, times; boolean burned; }

  static final class Event { int house, told, use, from; boolean look; }

  static final class ActText { String text; int year, told; }

  static final class Model {
    int now;
    List<Street> streets = new ArrayList<>();
    List<House> houses = new ArrayList<>();
    List<Integer> mains = new ArrayList<>();
    List<int[]> heads = new ArrayList<>();
    List<Crew> crews = new ArrayList<>();
    List<Call> calls = new ArrayList<>();
    List<Event> events = new ArrayList<>();
    List<ActText> acts = new ArrayList<>();
    String tape = "";
    String orders = null;
    int ordersTold;
    String leaving = null;
    List<Object> rows = new ArrayList<>();
    boolean[] lost = new boolean[6];

    static boolean in(int v, int lo, int hi) { return lo <= v && v <= hi; }
    static boolean corner(int c) { return in(c, 0, 19); }

    int street(int one, int other, int lasts) {
      if (!corner(one) || !corner(other) || one == other || !in(lasts, 1, 20) || streets.size() == 40) return NONE;
      Street s = new Street(); s.a = one; s.b = other; s.lasts = lasts;
      streets.add(s);
      return streets.size() - 1;
    }
    boolean jam(int s, int part, int h) {
      if (!in(s, 0, streets.size() - 1) || !in(part, 0, 3) || !in(h, 100, 400)) return false;
      streets.get(s).jam[part] = h;
      return true;
    }
    boolean closed(int s, boolean is) {
      if (!in(s, 0, streets.size() - 1) || streets.get(s).closed == is) return false;
      streets.get(s).closed = is;
      return true;
    }
    int come(int from, int to, int minute, int slow) {
      if (!corner(from) || !corner(to) || !in(minute, 0, 30000) || !in(slow, 50, 300)) return NONE;
      return way(from, to, minute, slow);
    }
    int way(int from, int to, int t, int slow) {
      TreeSet<Integer> open = new TreeSet<>();
      open.add(t * 20 + from);
      while (!open.isEmpty()) {
        int first = open.pollFirst();
        int at = first % 20, m = first / 20;
        if (m > t + 600) return NONE;
        if (at == to) return m;
        for (Street s : streets) {
          if (s.closed || s.a != at && s.b != at) continue;
          long product = (long) s.lasts * s.jam[m / 360 % 4] * slow;
          long takes = product / 10000 + (product % 10000 == 0 ? 0 : 1);
          open.add((int) (m + takes) * 20 + (s.a == at ? s.b : s.a));
        }
      }
      return NONE;
    }
    int walk(int from, int to) {
      if (!corner(from) || !corner(to)) return NONE;
      int[] d = new int[20];
      Arrays.fill(d, 1000000);
      d[from] = 0;
      for (int i = 0; i < 20; i++) for (Street s : streets) {
        d[s.a] = Math.min(d[s.a], d[s.b] + s.lasts);
        d[s.b] = Math.min(d[s.b], d[s.a] + s.lasts);
      }
      return d[to] >= 1000000 ? NONE : d[to];
    }
    int feet(int from, int to) { int w = walk(from, to); return w == NONE ? NONE : w * 100; }

    int house(int corner, int kind, int floors, int rooms, int shaft) {
      if (!corner(corner) || !in(kind, 0, 2) || !in(floors, 1, 6) || !in(rooms, 1, 4) || !in(shaft, -1, rooms - 1) || houses.size() == 12) return NONE;
      House h = new House();
      h.number = houses.size(); h.corner = corner; h.kind = kind; h.floors = floors; h.rooms = rooms; h.shaft = shaft;
      h.room = new Room[floors][rooms];
      for (Room[] f : h.room) for (int r = 0; r < rooms; r++) f[r] = new Room();
      h.burnt = new int[floors]; h.people = new int[floors]; h.told = new int[floors]; h.fallen = new boolean[floors];
      houses.add(h);
      return h.number;
    }
    House at(int house) { return in(house, 0, houses.size() - 1) ? houses.get(house) : null; }
    boolean build(int house, boolean doors, int wall, int year) {
      House h = at(house);
      if (h == null || !in(wall, 0, 3) || !in(year, 1, 200)) return false;
      h.doors = doors; h.wall = wall; h.year = year;
      return true;
    }
    boolean use(int house, int use) {
      House h = at(house);
      if (h == null || !in(use, 0, 9) || events.stream().anyMatch(e -> !e.look && e.house == house)) return false;
      h.use = use;
      return true;
    }
    boolean floor(int house, int floor, int stuff, int people) {
      House h = at(house);
      if (h == null || !in(floor, 0, h.floors - 1) || !in(stuff, 0, 500) || !in(people, 0, 20) || h.fallen[floor]) return false;
      for (Room r : h.room[floor]) r.stuff = stuff;
      h.told[floor] = stuff;
      h.people[floor] = people;
      see();
      return true;
    }
    boolean light(int house, int room) {
      House h = at(house);
      if (h == null || !in(room, 0, h.floors * h.rooms - 1) || h.fallen[room / h.rooms]) return false;
      Room r = h.room[room / h.rooms][room % h.rooms];
      if (r.heat < 400) r.heat = 400;
      see();
      return true;
    }
    void see() { for (Call c : calls) if (c.state == 0 && anyBurns(c.corner)) c.burned = true; }
    boolean anyBurns(int corner) { return houses.stream().anyMatch(h -> h.corner == corner && h.burning() > 0); }

    int room(int house, int room, int what) {
      House h = at(house);
      if (h == null || !in(room, 0, h.floors * h.rooms - 1)) return NONE;
      int f = room / h.rooms, r = room % h.rooms;
      return what == 0 ? h.room[f][r].heat : what == 1 ? h.room[f][r].stuff : what == 2 ? (h.burns(f, r) ? 1 : 0) : NONE;
    }
    int floored(int house, int f, int what) {
      House h = at(house);
      if (h == null || !in(f, 0, h.floors - 1)) return NONE;
      return what == 0 ? h.burnt[f] : what == 1 ? (h.fallen[f] ? 1 : 0) : what == 2 ? h.people[f] : what == 3 ? h.load(f) : NONE;
    }
    int housed(int house, int what) {
      House h = at(house);
      if (h == null) return NONE;
      int fallen = 0;
      for (boolean b : h.fallen) if (b) fallen++;
      int[] all = {h.burning(), h.allBurnt(), h.saved, h.lost, fallen,
          (int) crews.stream().filter(c -> c.state == 2 && c.house == house).count(), h.gallons};
      return in(what, 0, 6) ? all[what] : NONE;
    }

    int main(int gives) {
      if (!in(gives, 10, 2000) || mains.size() == 6) return NONE;
      mains.add(gives);
      return mains.size() - 1;
    }
    int head(int corner, int main) {
      if (!corner(corner) || !in(main, 0, mains.size() - 1) || heads.size() == 20) return NONE;
      heads.add(new int[] {corner, main});
      return heads.size() - 1;
    }
    int crew(int sort, int home, boolean horses, int slow, int men) {
      if (!in(sort, 0, 3) || !corner(home) || !in(slow, 50, 150) || !in(men, 1, 9) || crews.size() == 16) return NONE;
      Crew c = new Crew();
      c.sort = sort; c.home = home; c.post = home; c.horses = horses; c.slow = slow; c.men = men;
      if (sort == 0) { c.a = 100; c.b = 10; c.c = 0; }
      if (sort == 1) { c.a = 100; c.b = 10; c.c = 1; }
      if (sort == 2) c.a = 1;
      crews.add(c);
      return crews.size() - 1;
    }
    Crew one(int crew) { return in(crew, 0, crews.size() - 1) ? crews.get(crew) : null; }
    boolean gear(int crew, int a, int b, int c) {
      Crew k = one(crew);
      if (k == null || k.state == 2) return false;
      boolean ok = false;
      if (k.sort == 0) ok = in(a, 100, 3000) && in(b, 10, 500) && c == 0;
      if (k.sort == 1) ok = in(a, 100, 3000) && in(b, 10, 500) && in(c, 1, 30);
      if (k.sort == 2) ok = in(a, 1, 6) && b == 0 && c == 0;
      if (k.sort == 3) ok = a == 0 && b == 0 && c == 0;
      if (ok) { k.a = a; k.b = b; k.c = c; }
      return ok;
    }
    boolean heal(int crew) {
      Crew k = one(crew);
      if (k == null || k.state != 4) return false;
      k.state = 0; k.post = k.home;
      return true;
    }
    boolean recall(int crew) {
      Crew k = one(crew);
      if (k == null || k.state != 0 || k.post == k.home) return false;
      home(k);
      return true;
    }
    void home(Crew k) {
      int m = way(k.post, k.home, now, k.slowNow());
      k.house = NONE; k.floor = NONE;
      k.post = k.home;
      if (m == NONE || m == now) { k.state = 0; k.minute = NONE; }
      else { k.state = 3; k.minute = m; }
    }
    int about(int crew, int what) {
      Crew k = one(crew);
      if (k == null || !in(what, 0, 8)) throw new NoSuchElementException();
      return new int[] {k.state, k.post, k.state == 1 || k.state == 3 ? k.minute : NONE, k.call, k.house, k.floor, k.tired, k.slowNow(), k.got}[what];
    }
    int headOf(House h) {
      int best = NONE;
      for (int i = 0; i < heads.size(); i++) {
        int f = feet(heads.get(i)[0], h.corner);
        if (f != NONE && (best == NONE || f < feet(heads.get(best)[0], h.corner))) best = i;
      }
      return best;
    }
    int reach(int crew, int house) {
      Crew k = one(crew);
      House h = at(house);
      if (k == null || h == null || !k.hose()) return NONE;
      int head = headOf(h);
      if (head == NONE) return NONE;
      int top = NONE;
      for (int f = 0; f < h.floors; f++) if (feet(heads.get(head)[0], h.corner) + 20 * (f + 1) <= k.a) top = f;
      return top;
    }

    int call(int corner) {
      if (!corner(corner)) return NONE;
      int n = NONE;
      for (int i = 0; i < calls.size(); i++) if (calls.get(i).state == 0 && calls.get(i).corner == corner) n = i;
      if (n == NONE) {
        if (calls.size() == 60) return NONE;
        Call c = new Call();
        c.corner = corner; c.first = now; c.burned = anyBurns(corner);
        calls.add(c);
        n = calls.size() - 1;
      }
      Call c = calls.get(n);
      c.times++;
      if (c.word == 3) return n;
      c.word++;
      int[] want = wants(corner, c.word);
      for (int sort = 0; sort < 4; sort++) for (int i = 0; i < want[sort]; i++) {
        Crew best = null;
        int least = 0;
        for (Crew k : crews) {
          if (k.state != 0 || k.sort != sort) continue;
          int m = way(k.post, corner, now, k.slowNow());
          if (m != NONE && (best == null || m < least)) { best = k; least = m; }
        }
        if (best == null) c.lacks++;
        else { best.state = 1; best.post = corner; best.minute = least; best.call = n; c.sent++; }
      }
      for (int i = 0; i < want[4]; i++) {
        int to = NONE;
        for (int k = 19; k >= 0; k--) {
          int at = k;
          if (crews.stream().anyMatch(x -> x.home == at) && crews.stream().noneMatch(x -> (x.state == 0 || x.state == 3) && x.post == at)) to = k;
        }
        if (to == NONE) break;
        Crew best = null;
        int least = 0;
        for (Crew k : crews) {
          if (k.state != 0 || crews.stream().noneMatch(x -> x != k && x.state == 0 && x.post == k.post)) continue;
          int m = way(k.post, to, now, k.slowNow());
          if (m != NONE && (best == null || m < least)) { best = k; least = m; }
        }
        if (best == null) break;
        best.state = 3; best.post = to; best.minute = least;
      }
      return n;
    }
    int called(int call, int what) {
      if (!in(call, 0, calls.size() - 1) || !in(what, 0, 7)) return NONE;
      Call c = calls.get(call);
      return new int[] {c.corner, c.word, c.state, c.first, c.closed, c.sent, c.lacks, c.times}[what];
    }
    int falses(int corner, int part) {
      if (!corner(corner) || !in(part, 0, 3)) return NONE;
      int all = 0, wrong = 0;
      for (Call c : calls) if (c.corner == corner && c.state > 0 && c.first / 360 % 4 == part) { all++; if (c.state == 2) wrong++; }
      return all == 0 ? 0 : wrong * 100 / all;
    }

    int feed(int... five) {
      StringBuilder more = new StringBuilder();
      for (int v : five) for (int i = 3; i >= 0; i--) { int b = v >>> (8 * i) & 255; if (b != 0) more.append((char) b); }
      if (tape.length() + more.length() > 200) return NONE;
      tape += more;
      return tape.length();
    }
    boolean end(int n) {
      if (!in(n, 0, tape.length())) return false;
      tape = tape.substring(0, n);
      return true;
    }
    int fault(int sort) { return in(sort, 0, 2) ? faultOf(tape, sort) : -2; }
    int orders() {
      if (ordersTold == 20 || faultOf(tape, 0) != NONE) return NONE;
      orders = tape.replace(" ", "");
      tape = "";
      return ordersTold++;
    }
    boolean leaving() {
      if (faultOf(tape, 1) != NONE) return false;
      leaving = tape.replace(" ", "");
      tape = "";
      return true;
    }

    int[] letterValues(int corner, int word) {
      int f = 0, k = 0, o = 0;
      for (House h : houses) if (h.corner == corner) { f = Math.max(f, h.floors); k++; }
      for (Call c : calls) if (c.state == 0 && c.corner != corner) o++;
      int[] ready = new int[4];
      for (Crew c : crews) if (c.state == 0) ready[c.sort]++;
      return new int[] {word, now / 60 % 24, f, k, falses(corner, now / 360 % 4), ready[0], ready[1], ready[2], ready[3], o};
    }
    int[] wants(int corner, int word) {
      int[] sum = new int[5];
      if (orders == null) return sum;
      int[] values = letterValues(corner, word);
      for (String clause : orders.split(";")) {
        String[] two = clause.split("\\?");
        if (!holds(two[0], LETTERS[0], values)) continue;
        for (int i = 0; i < two[1].length(); i += 2) sum["pslcm".indexOf(two[1].charAt(i))] += two[1].charAt(i + 1) - '0';
      }
      for (int i = 0; i < 5; i++) sum[i] = Math.min(9, sum[i]);
      return sum;
    }
    int asks(int corner, int word, int sort) {
      if (!corner(corner) || !in(word, 1, 3) || !in(sort, 0, 4)) return NONE;
      return wants(corner, word)[sort];
    }
    int why(int corner, int word) {
      if (!corner(corner) || !in(word, 1, 3)) return NONE;
      if (orders == null) return 0;
      int bits = 0, i = 0;
      for (String clause : orders.split(";")) {
        if (i < 30 && holds(clause.split("\\?")[0], LETTERS[0], letterValues(corner, word))) bits |= 1 << i;
        i++;
      }
      return bits;
    }

    int tick(int n) {
      if (!in(n, 0, 300) || now + n > 20000) return NONE;
      for (int i = 0; i < n; i++) minute();
      return now;
    }
    int worst(int corner) {
      int best = NONE;
      for (House h : houses) if (h.corner == corner && h.burning() > 0 && (best == NONE || h.burning() > houses.get(best).burning())) best = h.number;
      return best;
    }
    void minute() {
      now++;
      for (Crew k : crews) {
        if (k.state == 3 && k.minute <= now) { k.state = 0; continue; }
        if (k.state != 1 || k.minute > now) continue;
        Call c = calls.get(k.call);
        int w = worst(c.corner);
        if (w == NONE || c.state != 0) {
          if (c.state == 0) { c.state = c.burned ? 1 : 2; c.closed = now; }
          home(k);
        } else { k.state = 2; k.house = w; k.began = now; }
      }
      for (Crew k : crews) if (k.state == 2 && houses.get(k.house).burning() == 0) {
        int w = worst(houses.get(k.house).corner);
        if (w != NONE) k.house = w;
      }
      for (Crew k : crews) { k.got = 0; k.ask = 0; k.aims = false; k.floor = NONE; }
      for (Crew k : crews) if (k.state == 2) {
        House h = houses.get(k.house);
        if (k.sort == 2) {
          for (int f = h.floors - 1; f >= 0; f--) if (f < k.a && !h.fallen[f] && h.people[f] > 0) {
            int n = h.people[f] >= 2 ? 2 : 1;
            h.people[f] -= n; h.saved += n;
            break;
          }
        }
        if (k.hose()) {
          int reach = reach(crews.indexOf(k), h.number);
          boolean chief = crews.stream().anyMatch(x -> x.sort == 3 && x.state == 2 && x.house == h.number);
          int best = NONE, bestValue = 0;
          for (int room = 0; room < h.floors * h.rooms; room++) {
            int f = room / h.rooms, r = room % h.rooms;
            if (f > reach || !h.burns(f, r)) continue;
            int so = 0;
            for (Crew x : crews) if (x.aims && x.house == h.number && x.targetF == f && x.targetR == r) so += x.ask;
            int value = chief ? h.room[f][r].heat - so / 4 : 0;
            if (best == NONE || value > bestValue) { best = room; bestValue = value; }
          }
          if (best == NONE) continue;
          if (k.sort == 1 && now < k.began + k.c) continue;
          k.aims = true; k.targetF = best / h.rooms; k.targetR = best % h.rooms;
          k.main = heads.get(headOf(h))[1];
          int f = k.targetF;
          int[] v = {f, f == 0 ? 0 : h.load(f) * 100 / h.falls(), now - k.began, h.room[f][k.targetR].heat, k.men, h.burning()};
          if (leaving != null && holds(leaving, LETTERS[1], v)) k.ask = k.b / 2;
          else { k.ask = k.b; k.floor = f; }
        }
      }
      int[][][] water = new int[houses.size()][6][4];
      for (Crew k : crews) if (k.aims) {
        int all = 0;
        for (Crew x : crews) if (x.aims && x.main == k.main) all += x.ask;
        int gives = mains.get(k.main);
        k.got = all <= gives ? k.ask : (int) ((long) k.ask * gives / all);
        water[k.house][k.targetF][k.targetR] += k.got;
        houses.get(k.house).gallons += k.got;
      }
      burn(houses, water, true);
      for (Crew k : crews) if (k.state == 2 && k.floor != NONE && houses.get(k.house).fallen[k.floor]) {
        k.state = 4; k.post = k.home; k.house = NONE; k.floor = NONE;
      }
      for (Call c : calls) if (c.state == 0 && !anyBurns(c.corner)
          && crews.stream().anyMatch(k -> k.state == 2 && houses.get(k.house).corner == c.corner)) { c.state = 1; c.closed = now; }
      for (Crew k : crews) if (k.state == 2 && !anyBurns(houses.get(k.house).corner)) home(k);
      for (Crew k : crews) {
        int d = new int[] {-1, 1, 2, 1, -1000}[k.state];
        k.tired = Math.max(0, Math.min(300, k.tired + d));
      }
      see();
    }
    static void burn(List<House> houses, int[][][] water, boolean people) {
      List<House> old = new ArrayList<>();
      for (House h : houses) old.add(h.copy());
      for (House h : houses) {
        House was = old.get(h.number);
        List<House> row = new ArrayList<>();
        for (House x : old) if (x.corner == h.corner) row.add(x);
        int at = row.indexOf(was);
        List<House> beside = new ArrayList<>();
        if (at > 0) beside.add(row.get(at - 1));
        if (at + 1 < row.size()) beside.add(row.get(at + 1));
        for (int f = 0; f < h.floors; f++) for (int r = 0; r < h.rooms; r++) {
          int gain = was.burns(f, r) ? 50 : -10;
          for (int d = -1; d <= 1; d += 2) if (r + d >= 0 && r + d < h.rooms && was.burns(f, r + d)) gain += was.doors ? 30 : 10;
          if (f > 0 && was.burns(f - 1, r)) gain += r == was.shaft ? 60 : 20;
          if (f + 1 < h.floors && was.burns(f + 1, r)) gain += 5;
          for (House x : beside) if (f < x.floors) for (int q = 0; q < x.rooms; q++) if (x.burns(f, q)) gain += 24 / (1 + x.wall + was.wall);
          gain -= water[h.number][f][r] / 4;
          Room room = h.room[f][r];
          room.heat = was.fallen[f] ? 0 : Math.max(0, Math.min(1000, was.room[f][r].heat + gain));
          if (was.burns(f, r)) {
            int gone = Math.min(room.stuff, 1 + was.room[f][r].heat / 250);
            room.stuff -= gone;
            h.burnt[f] += gone;
          }
        }
      }
      for (House h : houses) for (int f = h.floors - 1; f >= 1; f--) if (!h.fallen[f] && h.load(f) >= h.falls()) {
        h.fallen[f] = true;
        for (int r = 0; r < h.rooms; r++) {
          Room up = h.room[f][r], down = h.room[f - 1][r];
          down.stuff = Math.min(2000, down.stuff + up.stuff);
          if (!h.fallen[f - 1]) down.heat = Math.max(down.heat, up.heat);
          up.heat = 0; up.stuff = 0;
        }
        if (people) { h.lost += h.people[f]; h.people[f] = 0; }
      }
      if (people) for (House h : houses) for (int f = 0; f < h.floors; f++) if (!h.fallen[f])
        for (int r = 0; r < h.rooms; r++) if (h.burns(f, r) && h.room[f][r].heat >= 600 && h.people[f] > 0) { h.people[f]--; h.lost++; }
    }

    int act(int year) {
      if (!in(year, 1, 200) || acts.size() == 12 || faultOf(tape, 2) != NONE) return NONE;
      ActText a = new ActText();
      a.text = tape.replace(" ", ""); a.year = year; a.told = now;
      acts.add(a);
      tape = "";
      return acts.size() - 1;
    }
    int force(int house, int q) {
      House h = at(house);
      if (h == null || !in(q, 0, now)) return NONE;
      int best = NONE;
      for (int y = 1; y <= h.year; y++) for (int i = 0; i < acts.size(); i++) if (acts.get(i).year == y && acts.get(i).told <= q) best = i;
      return best;
    }
    boolean change(int house, int use, int from) {
      if (at(house) == null || !in(use, 0, 9) || !in(from, 0, now) || events.size() == 100) return false;
      Event e = new Event(); e.house = house; e.use = use; e.from = from; e.told = now;
      events.add(e);
      return true;
    }
    int used(int house, int q) {
      House h = at(house);
      if (h == null || !in(q, 0, now)) return NONE;
      int use = h.use, from = -1;
      for (Event e : events) if (!e.look && e.house == house && e.told <= q && e.from <= q && e.from >= from) { use = e.use; from = e.from; }
      return use;
    }
    boolean look(int house) {
      if (at(house) == null || events.size() == 100) return false;
      Event e = new Event(); e.house = house; e.look = true; e.told = now;
      events.add(e);
      return true;
    }
    int days(int house, int q) {
      int last = NONE;
      for (Event e : events) if (e.look && e.house == house && e.told <= q) last = e.told;
      return last == NONE ? 999 : (q - last) / 1440;
    }
    List<Integer> codes(int house, int q) {
      List<Integer> out = new ArrayList<>();
      int act = force(house, q);
      if (act == NONE) return out;
      House h = at(house);
      int beside = 0;
      List<Integer> row = new ArrayList<>();
      for (House x : houses) if (x.corner == h.corner) row.add(x.number);
      if (row.indexOf(house) > 0) beside++;
      if (row.indexOf(house) < row.size() - 1) beside++;
      int[] v = {h.floors, h.rooms, used(house, q), h.kind, Arrays.stream(h.told).max().getAsInt(), h.shaft >= 0 ? 1 : 0, h.wall, h.year,
          h.doors ? 1 : 0, beside, days(house, q)};
      for (String clause : acts.get(act).text.split(";")) {
        String[] two = clause.split("\\?");
        if (holds(two[0], LETTERS[2], v)) out.add(Integer.parseInt(two[1]));
      }
      return out;
    }
    int fails(int house, int q) { return at(house) == null || !in(q, 0, now) ? NONE : codes(house, q).size(); }
    int code(int house, int q, int i) {
      if (fails(house, q) == NONE) return NONE;
      List<Integer> c = codes(house, q);
      return in(i, 0, c.size() - 1) ? c.get(i) : NONE;
    }
    int failing() { int bits = 0; for (House h : houses) if (!codes(h.number, now).isEmpty()) bits |= 1 << h.number; return bits; }

    // ROUND: all sequences, one by one
    int[] best; int bestWorth, bestMinutes;
    void rounds(int corner, int within, List<Integer> can, int[] worth, int[][] d, int[] seq, int n, int worthSoFar, int used) {
      int last = n == 0 ? corner : houses.get(can.get(seq[n - 1])).corner;
      int total = used + d[last][corner];
      if (total <= within) {
        boolean better = worthSoFar > bestWorth || worthSoFar == bestWorth && total < bestMinutes;
        if (best == null || better) { best = Arrays.copyOf(seq, n); bestWorth = worthSoFar; bestMinutes = total; }
      }
      for (int i = 0; i < can.size(); i++) {
        boolean in = false;
        for (int k = 0; k < n; k++) if (seq[k] == i) in = true;
        if (in) continue;
        seq[n] = i;
        int more = used + d[last][houses.get(can.get(i)).corner] + 10;
        if (more <= within) rounds(corner, within, can, worth, d, seq, n + 1, worthSoFar + worth[i], more);
      }
    }
    int[] roundBest(int corner, int within) {
      int[][] d = new int[20][20];
      for (int a = 0; a < 20; a++) for (int b = 0; b < 20; b++) d[a][b] = walk(a, b);
      List<Integer> can = new ArrayList<>();
      for (House h : houses) if (d[corner][h.corner] != NONE && can.size() < 8) can.add(h.number);
      int[] worth = new int[can.size()];
      for (int i = 0; i < worth.length; i++) worth[i] = 10 * fails(can.get(i), now) + Math.min(30, days(can.get(i), now));
      best = null;
      rounds(corner, within, can, worth, d, new int[9], 0, 0, 0);
      int[] out = new int[best.length];
      for (int i = 0; i < out.length; i++) out[i] = can.get(best[i]);
      return out;
    }
    int round(int corner, int within, int what) {
      if (!corner(corner) || !in(within, 0, 500) || !in(what, 0, 2)) return NONE;
      int n = roundBest(corner, within).length;
      return what == 0 ? bestWorth : what == 1 ? bestMinutes : n;
    }
    int rounded(int corner, int within, int i) {
      if (!corner(corner) || !in(within, 0, 500)) return NONE;
      int[] b = roundBest(corner, within);
      return in(i, 0, b.length - 1) ? b[i] : NONE;
    }
    int pointsOf(int corner, List<Integer> set, int limit, int[][] d) {
      int near = 0;
      for (int c : set) if (d[c][corner] != NONE && d[c][corner] <= limit) near++;
      return near == 0 ? 0 : near == 1 ? 2 : 3;
    }
    int[][] all() { int[][] d = new int[20][20]; for (int a = 0; a < 20; a++) for (int b = 0; b < 20; b++) d[a][b] = walk(a, b); return d; }
    int planPoints; List<Integer> planBest;
    void plans(int n, int limit, List<Integer> set, int[][] d) {
      if (set.size() == n) {
        int sum = 0;
        for (Call c : calls) sum += pointsOf(c.corner, set, limit, d);
        if (planBest == null || sum > planPoints) { planBest = new ArrayList<>(set); planPoints = sum; }
        return;
      }
      for (int c = set.isEmpty() ? 0 : set.get(set.size() - 1) + 1; c < 20; c++) {
        set.add(c);
        plans(n, limit, set, d);
        set.remove(set.size() - 1);
      }
    }
    int plan(int n, int limit) {
      if (!in(n, 1, 4) || !in(limit, 1, 100)) return NONE;
      planBest = null;
      plans(n, limit, new ArrayList<>(), all());
      return planPoints;
    }
    int planned(int n, int limit, int i) {
      if (plan(n, limit) == NONE || !in(i, 0, n - 1)) return NONE;
      return planBest.get(i);
    }

    int row(int kind) {
      if (!in(kind, 0, 3) || rows.size() == 6) return NONE;
      rows.add(kind == 0 ? new byte[20] : kind == 1 ? new short[20] : kind == 2 ? new int[20] : (Object) new float[20]);
      return rows.size() - 1;
    }
    boolean put(int row, int corner, int v) {
      if (!in(row, 0, rows.size() - 1) || lost[row] || !corner(corner) || !in(v, -1000000, 1000000)) return false;
      Object o = rows.get(row);
      if (o instanceof byte[] b) b[corner] = (byte) v;
      if (o instanceof short[] s) s[corner] = (short) v;
      if (o instanceof int[] i) i[corner] = v;
      if (o instanceof float[] f) f[corner] = v == -1000000 ? Float.NaN : v / 8f;
      return true;
    }
    boolean lose(int row) {
      if (!in(row, 0, rows.size() - 1) || lost[row]) return false;
      lost[row] = true;
      return true;
    }
    int copy(int from, int at, int to, int place, int n) {
      if (!in(from, 0, rows.size() - 1) || !in(to, 0, rows.size() - 1)) return 1;
      if (lost[from] || lost[to]) return 2;
      if (rows.get(from).getClass() != rows.get(to).getClass()) return 3;
      try { System.arraycopy(rows.get(from), at, rows.get(to), place, n); } catch (IndexOutOfBoundsException e) { return 4; }
      return 0;
    }
    double judge(int row, int corners, int limit) {
      if (!in(row, 0, rows.size() - 1) || lost[row] || !in(corners, 0, 1048575) || !in(limit, 0, 100)) return Double.NaN;
      int[][] d = all();
      List<Integer> set = new ArrayList<>();
      for (int c = 0; c < 20; c++) if ((corners >> c & 1) == 1) set.add(c);
      double sum = 0;
      for (int c = 0; c < 20; c++) {
        Object o = rows.get(row);
        double v = o instanceof byte[] b ? b[c] : o instanceof short[] s ? s[c] : o instanceof int[] i ? i[c] : ((float[]) o)[c];
        if (v != v) v = 1000;
        sum += v * pointsOf(c, set, limit, d);
      }
      return sum;
    }
    double loss(int row, int corners, int limit, int corner) {
      if (!corner(corner) || (corners >> corner & 1) == 0) return Double.NaN;
      return judge(row, corners, limit) - judge(row, corners - (1 << corner), limit);
    }
    int what(int house, int room, int gallons, int n) {
      House h = at(house);
      if (h == null || !in(room, 0, h.floors * h.rooms - 1) || !in(gallons, 0, 500) || !in(n, 1, 200)) return NONE;
      List<House> copy = new ArrayList<>();
      for (House x : houses) copy.add(x.copy());
      int[][][] water = new int[houses.size()][6][4];
      water[house][room / h.rooms][room % h.rooms] = gallons;
      for (int i = 0; i < n; i++) burn(copy, water, false);
      return copy.get(house).allBurnt() - h.allBurnt();
    }
    int count(int what) {
      int open = 0, wrong = 0, lacks = 0, saved = 0, dead = 0, hurt = 0;
      for (Call c : calls) { if (c.state == 0) open++; if (c.state == 2) wrong++; lacks += c.lacks; }
      for (House h : houses) { saved += h.saved; dead += h.lost; }
      for (Crew c : crews) if (c.state == 4) hurt++;
      int[] all = {now, streets.size(), houses.size(), crews.size(), calls.size(), open, wrong, lacks, saved, dead, hurt, acts.size(), ordersTold,
          tape.length(), mains.size(), heads.size(), rows.size()};
      return in(what, 0, 16) ? all[what] : NONE;
    }
  }

  static final String[] LETTERS = {"whfkapslco", "vbetmg", "srukgxwydnl"};

  /** FAULT by a machine that goes byte by byte with a stack of what is open. */
  static int faultOf(String text, int sort) {
    final int UNIT = 0, ATOM = 1, NUMBER = 2, AFTER = 3, OVER = 4, ACTION = 5, DIGIT = 6, ACTED = 7, CODED = 8;
    StringBuilder open = new StringBuilder();
    int state = UNIT, digits = 0;
    boolean right = false;
    for (int i = 0; i < text.length(); i++) {
      char c = text.charAt(i);
      boolean digit = c >= '0' && c <= '9';
      if (c == ' ') { if (state == NUMBER) state = AFTER; if (state == CODED && digits > 0) digits = 99; continue; }
      if (state == NUMBER) {
        if (digit) { if (++digits > 4) return i; continue; }
        state = AFTER;
      }
      if (state == UNIT || state == ATOM) {
        if (c == '[' || state == UNIT && (c == '(' || c == '!')) {
          if (open.length() == 8) return i;
          open.append(c);
          if (c == '[') state = ATOM;
          if (c == '(') right = false;
        } else if (digit) { state = NUMBER; digits = 1; if (sort < 0) return i; }
        else if (LETTERS[sort].indexOf(c) >= 0) state = AFTER;
        else return i;
        continue;
      }
      if (state == AFTER) {
        if (c == '+' || c == '-' || c == '*') { state = ATOM; continue; }
        boolean inner = open.length() > 0 && open.charAt(open.length() - 1) == '[';
        if (inner) { if (c != ']') return i; open.setLength(open.length() - 1); continue; }
        if (!right) {
          if (c != '=' && c != '<' && c != '>') return i;
          right = true;
          state = ATOM;
          continue;
        }
        state = OVER;
      }
      if (state == OVER) {
        while (open.length() > 0 && open.charAt(open.length() - 1) == '!') open.setLength(open.length() - 1);
        if (c == '&' || c == '|') { state = UNIT; right = false; continue; }
        if (c == ')' && open.length() > 0) { open.setLength(open.length() - 1); continue; }
        if (c == '?' && open.length() == 0 && sort != 1) { state = sort == 0 ? ACTION : CODED; digits = 0; continue; }
        return i;
      }
      if (state == ACTION || state == ACTED) {
        if ("pslcm".indexOf(c) >= 0) { state = DIGIT; continue; }
        if (state == ACTED && c == ';') { state = UNIT; right = false; continue; }
        return i;
      }
      if (state == DIGIT) { if (!digit) return i; state = ACTED; continue; }
      if (state == CODED) {
        if (digit && digits < 3) { digits++; continue; }
        if (c == ';' && digits > 0) { state = UNIT; right = false; continue; }
        return i;
      }
    }
    if (state == NUMBER) state = AFTER;
    boolean whole;
    if (sort == 0) whole = state == ACTED;
    else if (sort == 2) whole = state == CODED && digits > 0;
    else {
      if (state == AFTER && right && open.indexOf("[") < 0) state = OVER;
      whole = state == OVER && open.toString().replace("!", "").isEmpty();
    }
    return whole ? NONE : text.length();
  }

  static int closing(String s, int at) {
    int depth = 0;
    for (int i = at; i < s.length(); i++) {
      if ("([".indexOf(s.charAt(i)) >= 0) depth++;
      if (")]".indexOf(s.charAt(i)) >= 0 && --depth == 0) return i;
    }
    throw new IllegalStateException(s);
  }
  static List<Integer> outer(String s, String signs) {
    List<Integer> at = new ArrayList<>();
    for (int i = 0; i < s.length(); i++) {
      if ("([".indexOf(s.charAt(i)) >= 0) i = closing(s, i);
      else if (signs.indexOf(s.charAt(i)) >= 0) at.add(i);
    }
    return at;
  }
  static boolean holds(String s, String letters, int[] v) {
    List<Integer> ors = outer(s, "|");
    if (!ors.isEmpty()) { int i = ors.get(0); return holds(s.substring(0, i), letters, v) | holds(s.substring(i + 1), letters, v); }
    List<Integer> ands = outer(s, "&");
    if (!ands.isEmpty()) { int i = ands.get(0); return holds(s.substring(0, i), letters, v) & holds(s.substring(i + 1), letters, v); }
    if (s.charAt(0) == '!') return !holds(s.substring(1), letters, v);
    if (s.charAt(0) == '(') return holds(s.substring(1, s.length() - 1), letters, v);
    int i = outer(s, "=<>").get(0);
    long a = sum(s.substring(0, i), letters, v), b = sum(s.substring(i + 1), letters, v);
    return s.charAt(i) == '=' ? a == b : s.charAt(i) == '<' ? a < b : a > b;
  }
  static long bound(long x) { return x > 1000000 ? 1000000 : x < -1000000 ? -1000000 : x; }
  static long sum(String s, String letters, int[] v) {
    List<Integer> at = outer(s, "+-");
    if (!at.isEmpty()) {
      int i = at.get(at.size() - 1);
      long a = sum(s.substring(0, i), letters, v), b = sum(s.substring(i + 1), letters, v);
      return bound(s.charAt(i) == '+' ? a + b : a - b);
    }
    at = outer(s, "*");
    if (!at.isEmpty()) {
      int i = at.get(at.size() - 1);
      return bound(sum(s.substring(0, i), letters, v) * sum(s.substring(i + 1), letters, v));
    }
    if (s.charAt(0) == '[') return sum(s.substring(1, s.length() - 1), letters, v);
    return Character.isDigit(s.charAt(0)) ? Integer.parseInt(s) : v[letters.indexOf(s.charAt(0))];
  }

  // ------------------------------------------------------------------ random texts

  static final class Texts {
    final Random random;
    final String letters;
    Texts(Random random, String letters) { this.random = random; this.letters = letters; }
    String blank() { return random.nextInt(40) == 0 ? " " : ""; }
    String atom(int d) {
      int k = random.nextInt(10);
      if (k < 1 && d > 0) return "[" + blank() + sum(d - 1) + "]";
      if (k < 5) return "" + random.nextInt(new int[] {4, 10, 100, 1000, 10000}[random.nextInt(5)]);
      return blank() + letters.charAt(random.nextInt(letters.length()));
    }
    String term(int d) { String s = atom(d); while (random.nextInt(6) == 0) s += blank() + "*" + atom(d); return s; }
    String sum(int d) { String s = term(d); while (random.nextInt(5) == 0) s += (random.nextBoolean() ? "+" : "-") + blank() + term(d); return s; }
    String unit(int d) {
      int k = random.nextInt(10);
      if (k == 0 && d > 0) return "!" + blank() + unit(d - 1);
      if (k == 1 && d > 0) return "(" + condition(d - 1) + blank() + ")";
      return sum(d) + blank() + "=<>".charAt(random.nextInt(3)) + sum(d);
    }
    String part(int d) { String s = unit(d); while (random.nextInt(5) == 0) s += "&" + unit(d); return s; }
    String condition(int d) { String s = part(d); while (random.nextInt(5) == 0) s += "|" + blank() + part(d); return s; }
    String text(int sort) {
      int d = random.nextInt(4) == 0 ? 9 : 3;
      if (sort == 1) return condition(d);
      String s = "";
      int n = 1 + random.nextInt(random.nextInt(8) == 0 ? 12 : 3);
      for (int i = 0; i < n; i++) {
        if (i > 0) s += blank() + ";" + blank();
        s += condition(d) + "?";
        if (sort == 2) s += blank() + random.nextInt(1000);
        else { int m = 1 + random.nextInt(4); for (int k = 0; k < m; k++) s += blank() + "pslcm".charAt(random.nextInt(5)) + blank() + random.nextInt(random.nextInt(3) == 0 ? 10 : 3); }
      }
      return s;
    }
    String spoiled(String s) {
      StringBuilder b = new StringBuilder(s);
      String signs = "0123456789" + LETTERS[0] + LETTERS[1] + LETTERS[2] + "()[]!?&|=<>+-*;;  " + (char) 200 + "PX";
      int n = 1 + random.nextInt(2);
      for (int i = 0; i < n && b.length() > 0; i++) {
        int at = random.nextInt(b.length());
        char c = signs.charAt(random.nextInt(signs.length()));
        int k = random.nextInt(4);
        if (k == 0) b.setCharAt(at, c);
        if (k == 1) b.insert(at, c);
        if (k == 2) b.deleteCharAt(at);
        if (k == 3) b.setLength(at);
      }
      return b.toString();
    }
  }

  // ------------------------------------------------------------------ the runs

  static final class Run {
    final long seed;
    final Random random;
    final CityBrigade x = new CityBrigade();
    final Model m = new Model();
    final StringBuilder log = new StringBuilder();
    int calls;
    int wrong;
    final int spread;
    final boolean dear;
    // Great fires at few corners, with crews, heads and orders for all of them.
    final boolean busy;

    Run(long seed) {
      this.seed = seed;
      random = new Random(seed);
      busy = seed % 3 == 0;
      spread = busy ? 1 + random.nextInt(3) : 2 + random.nextInt(random.nextInt(4) == 0 ? 19 : 6);
      dear = random.nextInt(6) == 0;
    }

    int odd(int v) {
      if (random.nextInt(60) != 0) return v;
      int[] strange = {-1, -2, 20, 21, 12, 16, 40, 60, 100, 400, 1000, -1000, Integer.MAX_VALUE, Integer.MIN_VALUE, 0, 1 << 20};
      return strange[random.nextInt(strange.length)];
    }
    int corner() { return odd(random.nextInt(Math.min(20, spread))); }
    int between(int lo, int hi) { return odd(lo + random.nextInt(hi - lo + 1)); }
    int house() { return odd(random.nextInt(Math.max(1, m.houses.size()))); }
    int crew() { return odd(random.nextInt(Math.max(1, m.crews.size()))); }
    int q() { return odd(random.nextInt(m.now + 1)); }

    void same(String call, double got, double want) {
      calls++;
      log.append(call).append(" -> ").append(got).append('\n');
      if (got != want && !(got != got && want != want)) {
        wrong++;
        if (wrong <= 3) System.out.println("seed " + seed + " call " + calls + ": " + call + " answered " + got + ", due is " + want + " (tape '" + m.tape + "')");
      }
    }
    void same(String call, boolean got, boolean want) { same(call, got ? 1 : 0, want ? 1 : 0); }

    void feed(String s) {
      while (calls < 505 && !s.isEmpty()) {
        int[] v = new int[5];
        int n = Math.min(20, s.length());
        for (int i = 0; i < n; i++) v[i / 4] |= s.charAt(i) << (24 - 8 * (i % 4));
        s = s.substring(n);
        same("feed(" + Arrays.toString(v) + ")", x.feed(v[0], v[1], v[2], v[3], v[4]), m.feed(v));
      }
    }
    void tell(int sort) {
      String s = new Texts(random, LETTERS[sort]).text(sort);
      if (s.length() > 205) return;
      if (random.nextInt(3) == 0) s = new Texts(random, LETTERS[sort]).spoiled(s);
      same("end(0)", x.end(0), m.end(0));
      feed(s);
      if (random.nextBoolean()) same("fault(" + sort + ")", x.fault(sort), m.fault(sort));
      if (random.nextInt(4) == 0) { int o = between(0, 2); same("fault(" + o + ")", x.fault(o), m.fault(o)); }
      if (sort == 0) same("orders()", x.orders(), m.orders());
      if (sort == 1) same("leaving()", x.leaving(), m.leaving());
      if (sort == 2) { int y = between(1, random.nextBoolean() ? 4 : 200); same("act(" + y + ")", x.act(y), m.act(y)); }
    }
    void simpleOrders() {
      same("end(0)", x.end(0), m.end(0));
      String[] some = {"1=1?p1", "w>0?p2l1", "1=1?p1s1l1c1", "w=1?p1c1;w=2?s2m2;w=3?p9s9l9c9m9", "k>0?p3s2l2c1m3;k=0?p1m1", "a>50?p0;!a>50?p2s1c1", "1<2?s1c1m1"};
      feed(some[random.nextInt(some.length)]);
      same("orders()", x.orders(), m.orders());
    }

    void build() {
      int n = random.nextInt(Math.min(40, 3 * spread));
      for (int i = 0; i < n; i++) { int a = corner(), b = corner(), c = between(1, random.nextBoolean() ? 20 : 4); same("street(" + a + "," + b + "," + c + ")", x.street(a, b, c), m.street(a, b, c)); }
      n = random.nextInt(8);
      for (int i = 0; i < n; i++) newHouse();
      n = random.nextInt(4);
      for (int i = 0; i < n; i++) newMain();
      n = random.nextInt(12);
      for (int i = 0; i < n; i++) newCrew();
      if (random.nextInt(3) > 0) simpleOrders();
    }
    void buildBusy() {
      for (int i = 0; i < 2 * spread; i++) { int a = corner(), b = corner(), c = between(1, 6); same("street(" + a + "," + b + "," + c + ")", x.street(a, b, c), m.street(a, b, c)); }
      for (int i = 2 + random.nextInt(5); i > 0; i--) newHouse();
      for (int i = 1 + random.nextInt(3); i > 0; i--) newMain();
      for (int i = 0; i < spread; i++) { int k = odd(random.nextInt(Math.max(1, m.mains.size()))); same("head(" + i + "," + k + ")", x.head(i, k), m.head(i, k)); }
      for (int i = 8 + random.nextInt(9); i > 0; i--) newCrew();
      same("end(0)", x.end(0), m.end(0));
      String[] some = {"1=1?p9s9l9c9m9", "w=1?p2s2l1;w=2?p3s3c1m2;w=3?s9l9c9m9", "1=1?p3s2l1;k>1?c1m1"};
      feed(some[random.nextInt(some.length)]);
      same("orders()", x.orders(), m.orders());
      if (random.nextBoolean()) tellLeaving();
    }
    void tellLeaving() {
      String[] some = {"b>80", "v>0&b>95", "e>20|t>900", "m<3|g>8", "!b<100&v>1", "e*v>30", "t=1000"};
      same("end(0)", x.end(0), m.end(0));
      feed(some[random.nextInt(some.length)]);
      same("leaving()", x.leaving(), m.leaving());
    }
    void oneBusy() {
      switch (random.nextInt(24)) {
        case 0: case 1: case 2: { int h = house(), r = between(0, random.nextBoolean() ? 3 : 23); same("light(" + h + "," + r + ")", x.light(h, r), m.light(h, r)); break; }
        case 3: case 4: case 5: { int c = corner(); same("call(" + c + ")", x.call(c), m.call(c)); break; }
        case 6: tellFloor(house(), between(0, 5)); break;
        case 7: newGear(crew()); break;
        case 8: { int c = crew(); same("heal(" + c + ")", x.heal(c), m.heal(c)); break; }
        case 9: { int c = crew(); same("recall(" + c + ")", x.recall(c), m.recall(c)); break; }
        case 10: if (random.nextInt(4) == 0) tellLeaving(); break;
        case 11: { int h = house(), r = between(0, 11), g = between(0, 500), n = between(1, 60); same("what(" + h + "," + r + "," + g + "," + n + ")", x.what(h, r, g, n), m.what(h, r, g, n)); break; }
        case 12: one(); break;
        default: { int n = between(0, random.nextBoolean() ? 2 : 9); same("tick(" + n + ")", x.tick(n), m.tick(n)); state(); break; }
      }
    }
    void newHouse() {
      int a = corner(), k = between(0, 2), f = between(1, 6), r = between(1, 4), s = between(-1, 3);
      same("house(" + a + "," + k + "," + f + "," + r + "," + s + ")", x.house(a, k, f, r, s), m.house(a, k, f, r, s));
      for (int i = 0; i < f && i < 6 && random.nextInt(5) > 0; i++) tellFloor(m.houses.size() - 1, i);
    }
    void tellFloor(int h, int f) {
      int st = between(0, random.nextInt(3) == 0 ? 20 : 500), p = between(0, 20);
      same("floor(" + h + "," + f + "," + st + "," + p + ")", x.floor(h, f, st, p), m.floor(h, f, st, p));
    }
    void newMain() {
      int g = between(10, random.nextBoolean() ? 200 : 2000);
      same("main(" + g + ")", x.main(g), m.main(g));
      int c = corner(), k = odd(random.nextInt(Math.max(1, m.mains.size())));
      same("head(" + c + "," + k + ")", x.head(c, k), m.head(c, k));
    }
    void newCrew() {
      int s = between(0, 3), h = corner(), sl = between(50, 150), men = between(1, 9);
      boolean horses = random.nextBoolean();
      same("crew(" + s + "," + h + "," + horses + "," + sl + "," + men + ")", x.crew(s, h, horses, sl, men), m.crew(s, h, horses, sl, men));
      if (random.nextInt(4) > 0) newGear(m.crews.size() - 1);
    }
    void newGear(int c) {
      Crew k = m.one(c);
      int s = k == null ? 0 : k.sort;
      int a = s < 2 ? between(100, 3000) : s == 2 ? between(1, 6) : odd(0), b = s < 2 ? between(10, random.nextBoolean() ? 100 : 500) : odd(0), d = s == 1 ? between(1, random.nextBoolean() ? 4 : 30) : odd(0);
      same("gear(" + c + "," + a + "," + b + "," + d + ")", x.gear(c, a, b, d), m.gear(c, a, b, d));
    }

    void about(int c, int what) {
      int got = -99, want = -99;
      try { got = x.about(c, what); } catch (NoSuchElementException e) { got = -77; }
      try { want = m.about(c, what); } catch (NoSuchElementException e) { want = -77; }
      same("about(" + c + "," + what + ")", got, want);
    }

    void one() {
      switch (random.nextInt(64)) {
        case 0: { int a = corner(), b = corner(), c = between(1, 20); same("street(" + a + "," + b + "," + c + ")", x.street(a, b, c), m.street(a, b, c)); break; }
        case 1: case 2: { int s = odd(random.nextInt(Math.max(1, m.streets.size()))), p = between(0, 3), h = between(100, 400); same("jam(" + s + "," + p + "," + h + ")", x.jam(s, p, h), m.jam(s, p, h)); break; }
        case 3: { int s = odd(random.nextInt(Math.max(1, m.streets.size()))); boolean b = random.nextBoolean(); same("closed(" + s + "," + b + ")", x.closed(s, b), m.closed(s, b)); break; }
        case 4: case 5: { int a = corner(), b = corner(), t = random.nextBoolean() ? between(300, 370) : between(0, 30000), s = between(50, 300); same("come(" + a + "," + b + "," + t + "," + s + ")", x.come(a, b, t, s), m.come(a, b, t, s)); break; }
        case 6: { int a = corner(), b = corner(); same("feet(" + a + "," + b + ")", x.feet(a, b), m.feet(a, b)); break; }
        case 7: newHouse(); break;
        case 8: case 9: { int h = house(), w = between(0, 3), y = between(1, random.nextBoolean() ? 4 : 200); boolean d = random.nextBoolean(); same("build(" + h + "," + d + "," + w + "," + y + ")", x.build(h, d, w, y), m.build(h, d, w, y)); break; }
        case 10: { int h = house(), u = between(0, 9); same("use(" + h + "," + u + ")", x.use(h, u), m.use(h, u)); break; }
        case 11: tellFloor(house(), between(0, 5)); break;
        case 12: case 13: case 14: { int h = house(), r = between(0, random.nextBoolean() ? 3 : 23); same("light(" + h + "," + r + ")", x.light(h, r), m.light(h, r)); break; }
        case 15: case 16: { int h = house(), r = between(0, 12), w = between(0, 2); same("room(" + h + "," + r + "," + w + ")", x.room(h, r, w), m.room(h, r, w)); break; }
        case 17: case 18: { int h = house(), f = between(0, 4), w = between(0, 3); same("floored(" + h + "," + f + "," + w + ")", x.floored(h, f, w), m.floored(h, f, w)); break; }
        case 19: case 20: { int h = house(), w = between(0, 6); same("housed(" + h + "," + w + ")", x.housed(h, w), m.housed(h, w)); break; }
        case 21: newMain(); break;
        case 22: newCrew(); break;
        case 23: newGear(crew()); break;
        case 24: { int c = crew(); same("heal(" + c + ")", x.heal(c), m.heal(c)); break; }
        case 25: { int c = crew(); same("recall(" + c + ")", x.recall(c), m.recall(c)); break; }
        case 26: case 27: case 28: about(crew(), between(0, 8)); break;
        case 29: { int c = crew(), h = house(); same("reach(" + c + "," + h + ")", x.reach(c, h), m.reach(c, h)); break; }
        case 30: case 31: case 32: case 33: {
          int c = random.nextInt(3) > 0 && !m.houses.isEmpty() ? m.houses.get(random.nextInt(m.houses.size())).corner : corner();
          same("call(" + c + ")", x.call(c), m.call(c)); break; }
        case 34: { int c = odd(random.nextInt(m.calls.size() + 1)), w = between(0, 7); same("called(" + c + "," + w + ")", x.called(c, w), m.called(c, w)); break; }
        case 35: { int c = corner(), p = between(0, 3); same("falses(" + c + "," + p + ")", x.falses(c, p), m.falses(c, p)); break; }
        case 36: tell(0); break;
        case 37: tell(1); break;
        case 38: case 39: tell(2); break;
        case 40: simpleOrders(); break;
        case 41: { int c = corner(), w = between(1, 3), s = between(0, 4); same("asks(" + c + "," + w + "," + s + ")", x.asks(c, w, s), m.asks(c, w, s)); break; }
        case 42: { int c = corner(), w = between(1, 3); same("why(" + c + "," + w + ")", x.why(c, w), m.why(c, w)); break; }
        case 43: case 44: case 45: case 46: case 47: case 48: {
          int n = random.nextInt(12) == 0 ? between(0, 300) : between(0, random.nextBoolean() ? 3 : 15);
          same("tick(" + n + ")", x.tick(n), m.tick(n)); state(); break; }
        case 49: { int h = house(), q = q(); same("force(" + h + "," + q + ")", x.force(h, q), m.force(h, q)); break; }
        case 50: { int h = house(), u = between(0, 9), f = q(); same("change(" + h + "," + u + "," + f + ")", x.change(h, u, f), m.change(h, u, f)); break; }
        case 51: { int h = house(), q = q(); same("used(" + h + "," + q + ")", x.used(h, q), m.used(h, q)); break; }
        case 52: { int h = house(); same("look(" + h + ")", x.look(h), m.look(h)); break; }
        case 53: { int h = house(), q = random.nextBoolean() ? m.now : q(); same("fails(" + h + "," + q + ")", x.fails(h, q), m.fails(h, q)); break; }
        case 54: { int h = house(), q = random.nextBoolean() ? m.now : q(), i = between(0, 2); same("code(" + h + "," + q + "," + i + ")", x.code(h, q, i), m.code(h, q, i)); break; }
        case 55: same("failing()", x.failing(), m.failing()); break;
        case 56: if (m.houses.size() < 6 || dear) { int c = corner(), w = between(0, random.nextBoolean() ? 100 : 500), k = between(0, 2); same("round(" + c + "," + w + "," + k + ")", x.round(c, w, k), m.round(c, w, k)); } break;
        case 57: if (m.houses.size() < 6 || dear) { int c = corner(), w = between(0, random.nextBoolean() ? 100 : 500), i = between(0, 4); same("rounded(" + c + "," + w + "," + i + ")", x.rounded(c, w, i), m.rounded(c, w, i)); } break;
        case 58: { int n = between(1, dear ? 4 : 2), l = between(1, random.nextBoolean() ? 15 : 100); same("plan(" + n + "," + l + ")", x.plan(n, l), m.plan(n, l)); break; }
        case 59: { int n = between(1, dear ? 4 : 2), l = between(1, random.nextBoolean() ? 15 : 100), i = between(0, 3); same("planned(" + n + "," + l + "," + i + ")", x.planned(n, l, i), m.planned(n, l, i)); break; }
        case 60: rowCalls(); break;
        case 61: rowCalls(); break;
        case 62: { int h = house(), r = between(0, 5), g = between(0, 500), n = between(1, 200); same("what(" + h + "," + r + "," + g + "," + n + ")", x.what(h, r, g, n), m.what(h, r, g, n)); break; }
        default: { int w = between(0, 16); same("count(" + w + ")", x.count(w), m.count(w)); break; }
      }
    }
    int rowNumber() { return odd(random.nextInt(Math.max(1, m.rows.size()))); }
    void rowCalls() {
      if (random.nextInt(3) == 0) { int k = between(0, 3); same("row(" + k + ")", x.row(k), m.row(k)); }
      int v = random.nextInt(8) == 0 ? -1000000 : random.nextBoolean() ? between(-300, 300) : between(-1000000, 1000000);
      int r = rowNumber(), c = corner();
      same("put(" + r + "," + c + "," + v + ")", x.put(r, c, v), m.put(r, c, v));
      if (random.nextInt(15) == 0) { int l = rowNumber(); same("lose(" + l + ")", x.lose(l), m.lose(l)); }
      int f = rowNumber(), at = between(0, 20), to = rowNumber(), pl = between(0, 20), n = between(0, 20);
      if (random.nextBoolean()) { at = random.nextInt(6); pl = random.nextInt(6); n = random.nextInt(8); }
      same("copy(" + f + "," + at + "," + to + "," + pl + "," + n + ")", x.copy(f, at, to, pl, n), m.copy(f, at, to, pl, n));
      int j = rowNumber(), set = odd(random.nextInt(random.nextBoolean() ? 1 << 20 : 64)), lim = between(0, random.nextBoolean() ? 10 : 100), one = corner();
      same("judge(" + j + "," + set + "," + lim + ")", x.judge(j, set, lim), m.judge(j, set, lim));
      same("loss(" + j + "," + set + "," + lim + "," + one + ")", x.loss(j, set, lim, one), m.loss(j, set, lim, one));
    }
    // Some of what a minute may have changed, beside what later calls ask.
    void state() {
      if (!m.crews.isEmpty()) { int c = random.nextInt(m.crews.size()); about(c, random.nextInt(9)); about(c, 0); }
      if (!m.houses.isEmpty()) { int h = random.nextInt(m.houses.size()), r = random.nextInt(4); same("room(" + h + "," + r + ",0)", x.room(h, r, 0), m.room(h, r, 0)); }
    }
    // Everything that can be asked of the state, behind the last call of the run (still within 512 calls or not: both answer).
    void everything() {
      for (int c = 0; c < m.crews.size(); c++) for (int w = 0; w < 9; w++) about(c, w);
      for (int h = 0; h < m.houses.size(); h++) {
        for (int w = 0; w < 7; w++) same("housed(" + h + "," + w + ")", x.housed(h, w), m.housed(h, w));
        for (int f = 0; f < 6; f++) for (int w = 0; w < 4; w++) same("floored(" + h + "," + f + "," + w + ")", x.floored(h, f, w), m.floored(h, f, w));
        for (int r = 0; r < 24; r++) for (int w = 0; w < 3; w++) same("room(" + h + "," + r + "," + w + ")", x.room(h, r, w), m.room(h, r, w));
      }
      for (int c = 0; c < m.calls.size(); c++) for (int w = 0; w < 8; w++) same("called(" + c + "," + w + ")", x.called(c, w), m.called(c, w));
      for (int w = 0; w < 17; w++) same("count(" + w + ")", x.count(w), m.count(w));
    }

    static int hurt, lost, saved, out, falses, fallen, worked, acts, moved;
    int go() {
      if (busy) buildBusy(); else build();
      while (calls < 500 && wrong == 0) if (busy) oneBusy(); else one();
      everything();
      hurt += m.count(10); lost += m.count(9); saved += m.count(8); falses += m.count(6); acts += m.count(11);
      out += (int) m.calls.stream().filter(c -> c.state == 1).count();
      for (House h : m.houses) for (boolean b : h.fallen) if (b) fallen++;
      worked += (int) m.houses.stream().filter(h -> h.gallons > 0).count();
      moved += (int) m.crews.stream().filter(c -> c.state == 0 && c.post != c.home).count();
      return wrong;
    }
  }

  public static void main(String[] args) {
    int from = args.length > 0 ? Integer.parseInt(args[0]) : 1;
    int runs = args.length > 1 ? Integer.parseInt(args[1]) : 400;
    int wrong = 0;
    for (int seed = from; seed < from + runs && wrong < 20; seed++) wrong += new Run(seed).go();
    System.out.println("hurt " + Run.hurt + ", lost " + Run.lost + ", saved " + Run.saved + ", out " + Run.out + ", false " + Run.falses
        + ", floors fallen " + Run.fallen + ", houses with water " + Run.worked + ", acts " + Run.acts + ", moved " + Run.moved);
    System.out.println(wrong == 0 ? "all answers are as due" : wrong + " answers are not as due");
    if (wrong != 0) System.exit(1);
  }
}
