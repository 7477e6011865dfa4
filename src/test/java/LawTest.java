/** Promises 34 to 41: acts, which is in force, changes of use, looks, what a house fails by. */
public final class LawTest {
  static final Due due = new Due();

  public static void main(String[] args) {
    act();
    force();
    forceByYears();
    change();
    used();
    usedAsKnown();
    look();
    hundred();
    fails();
    letters();
    days();
    failing();
    firstOnes();
    due.over();
  }

  static void act() {
    due.part("promise 34");
    CityBrigade x = new CityBrigade();
    due.none("an empty tape", x.act(1));
    due.none("year 0", Due.act(x, "s=1?1", 0));
    due.is("the tape stays", x.count(13), 5);
    due.none("year 201", Due.act(x, "s=1?1", 201));
    due.none("a fault", Due.act(x, "s=1?", 1));
    due.is("the tape stays", x.count(13), 4);
    due.none("orders are none", Due.act(x, "1=1?p1", 1));
    due.is("count(11)", x.count(11), 0);
    due.is("year 1", Due.act(x, "s=1?1", 1), 0);
    due.is("the tape is empty", x.count(13), 0);
    due.is("year 200", Due.act(x, "s=1?1", 200), 1);
    for (int i = 2; i < 12; i++) due.is("act " + i, Due.act(x, "s=1?1", 1), i);
    due.none("the thirteenth", Due.act(x, "s=1?1", 1));
    due.is("the tape stays", x.count(13), 5);
    due.is("count(11)", x.count(11), 12);
  }

  static void force() {
    due.part("promise 35");
    CityBrigade x = new CityBrigade();
    due.none("without a house", x.force(0, 0));
    x.house(0, 0, 1, 1, -1);
    due.none("without an act", x.force(0, 0));
    x.tick(10);
    Due.act(x, "1=1?1", 1);
    x.tick(10);
    Due.act(x, "1=1?2", 1);
    due.none("house -1", x.force(-1, 0));
    due.none("house 1", x.force(1, 0));
    due.none("q -1", x.force(0, -1));
    due.none("q behind NOW", x.force(0, 21));
    due.none("as known at 9", x.force(0, 9));
    due.is("as known at 10", x.force(0, 10), 0);
    due.is("as known at 19", x.force(0, 19), 0);
    due.is("as known at 20: told last", x.force(0, 20), 1);
    Due.act(x, "1=1?3", 1);
    due.is("two told at 20", x.force(0, 20), 2);
  }

  static void forceByYears() {
    due.part("promise 35, years");
    CityBrigade x = new CityBrigade();
    x.house(0, 0, 1, 1, -1);
    x.build(0, false, 0, 50);
    Due.act(x, "1=1?1", 51);
    due.none("from a later year", x.force(0, 0));
    Due.act(x, "1=1?2", 50);
    due.is("from its own year", x.force(0, 0), 1);
    Due.act(x, "1=1?3", 49);
    due.is("the greatest year", x.force(0, 0), 1);
    x.build(0, false, 0, 49);
    due.is("its year as it is now", x.force(0, 0), 2);
    x.build(0, false, 0, 200);
    due.is("the greatest year", x.force(0, 0), 0);
  }

  static void change() {
    due.part("promise 36");
    CityBrigade x = new CityBrigade();
    due.no("without a house", x.change(0, 1, 0));
    x.house(0, 0, 1, 1, -1);
    x.tick(5);
    due.no("house -1", x.change(-1, 1, 0));
    due.no("house 1", x.change(1, 1, 0));
    due.no("use -1", x.change(0, -1, 0));
    due.no("use 10", x.change(0, 10, 0));
    due.no("from -1", x.change(0, 1, -1));
    due.no("from behind NOW", x.change(0, 1, 6));
    due.yes("nothing was told", x.use(0, 2));
    due.yes("from NOW", x.change(0, 9, 5));
    due.is("used(0, 5)", x.used(0, 5), 9);
    due.is("used(0, 4)", x.used(0, 4), 2);
  }

  static void used() {
    due.part("promise 37");
    CityBrigade x = new CityBrigade();
    due.none("without a house", x.used(0, 0));
    x.house(0, 0, 1, 1, -1);
    x.house(0, 0, 1, 1, -1);
    due.is("at first", x.used(0, 0), 0);
    due.none("house 2", x.used(2, 0));
    due.none("house -1", x.used(-1, 0));
    due.none("q -1", x.used(0, -1));
    due.none("q 1", x.used(0, 1));
    x.change(0, 3, 0);
    due.is("changed", x.used(0, 0), 3);
    due.is("the other one is not", x.used(1, 0), 0);
  }

  static void usedAsKnown() {
    due.part("promise 37, as known");
    CityBrigade x = new CityBrigade();
    x.house(0, 0, 1, 1, -1);
    x.use(0, 1);
    x.tick(10);
    x.change(0, 2, 8);
    x.tick(10);
    x.change(0, 3, 5);
    due.is("told at 20, from 5: the one from 8 is ahead", x.used(0, 20), 2);
    x.change(0, 4, 8);
    due.is("of two from 8 the one told last", x.used(0, 20), 4);
    due.is("as known at 19", x.used(0, 19), 2);
    due.is("as known at 10", x.used(0, 10), 2);
    due.is("as known at 9: nothing was told", x.used(0, 9), 1);
    x.tick(10);
    x.change(0, 5, 30);
    due.is("as known at 30", x.used(0, 30), 5);
    due.is("as known at 29", x.used(0, 29), 4);
  }

  static void look() {
    due.part("promise 38");
    CityBrigade x = new CityBrigade();
    due.no("without a house", x.look(0));
    x.house(0, 0, 1, 1, -1);
    due.no("look(-1)", x.look(-1));
    due.no("look(1)", x.look(1));
    due.yes("look(0)", x.look(0));
    due.yes("look(0) again", x.look(0));
    due.is("a look changes no use", x.used(0, 0), 0);
    due.yes("nor is it a change", x.use(0, 5));
  }

  static void hundred() {
    due.part("promises 36, 38, a hundred");
    CityBrigade x = new CityBrigade();
    x.house(0, 0, 1, 1, -1);
    for (int i = 0; i < 50; i++) {
      due.yes("change", x.change(0, i % 10, 0));
      due.yes("look", x.look(0));
    }
    due.no("one change more", x.change(0, 5, 0));
    due.no("one look more", x.look(0));
    due.is("the last change", x.used(0, 0), 9);
    Due.act(x, "l=0&u=9?5", 1);
    due.is("letters behind a hundred", x.code(0, 0, 0), 5);
    due.no("use behind a hundred", x.use(0, 1));
  }

  static void fails() {
    due.part("promises 39, 40");
    CityBrigade x = new CityBrigade();
    due.none("fails without a house", x.fails(0, 0));
    due.none("code without a house", x.code(0, 0, 0));
    x.house(0, 1, 3, 2, 0);
    due.is("without an act", x.fails(0, 0), 0);
    due.none("without an act", x.code(0, 0, 0));
    Due.act(x, "s>2?12;s>3?99;r=2?7;k=1?7;1=1?000", 1);
    due.is("four codes", x.fails(0, 0), 4);
    int[] codes = {12, 7, 7, 0};
    for (int i = 0; i < 4; i++) due.is("code " + i, x.code(0, 0, i), codes[i]);
    due.none("code 4", x.code(0, 0, 4));
    due.none("code -1", x.code(0, 0, -1));
    due.none("fails(1, 0)", x.fails(1, 0));
    due.none("fails(-1, 0)", x.fails(-1, 0));
    due.none("fails(0, 1)", x.fails(0, 1));
    due.none("fails(0, -1)", x.fails(0, -1));
    due.none("code(1, 0, 0)", x.code(1, 0, 0));
    due.none("code(0, 1, 0)", x.code(0, 1, 0));
    due.none("code(0, -1, 0)", x.code(0, -1, 0));
    x.tick(1);
    Due.act(x, "1=2?1", 1);
    due.is("as known at 1", x.fails(0, 1), 0);
    due.is("as known at 0", x.fails(0, 0), 4);
    CityBrigade y = new CityBrigade();
    y.house(0, 0, 1, 1, -1);
    StringBuilder many = new StringBuilder("1=1?0");
    for (int i = 1; i < 33; i++) many.append(";1=1?").append(i % 10);
    due.is("33 clauses", Due.act(y, many.toString(), 1), 0);
    due.is("33 codes", y.fails(0, 0), 33);
    due.is("the last one", y.code(0, 0, 32), 2);
  }

  static void letters() {
    due.part("letters of acts");
    CityBrigade x = new CityBrigade();
    for (int i = 0; i < 3; i++) x.house(7, 1, 4, 3, i == 1 ? 2 : -1);
    x.house(8, 1, 4, 3, -1);
    x.build(1, true, 2, 120);
    x.use(1, 6);
    x.floor(1, 0, 30, 1);
    x.floor(1, 2, 80, 1);
    x.floor(1, 3, 79, 1);
    Due.act(x, "s=4?1;r=3?2;u=6?3;k=1?4;g=80?5;x=1?6;w=2?7;y=120?8;d=1?9;n=2?10;l=999?11", 1);
    due.is("all of house 1", x.fails(1, 0), 11);
    for (int i = 0; i < 11; i++) due.is("code " + i, x.code(1, 0, i), i + 1);
    Due.act(x, "x=0?1;d=0?2;n=1?3;g=0?4;u=0?5", 1);
    due.is("house 0", x.fails(0, 0), 5);
    due.is("house 2", x.fails(2, 0), 5);
    Due.act(x, "n=0?1", 1);
    due.is("house 3 stands alone", x.fails(3, 0), 1);
    Due.act(x, "g=79?1;g=60?2", 1);
    x.floor(1, 2, 60, 1);
    due.is("told again: the greatest one as it is now", x.code(1, 0, 0), 1);
    x.floor(1, 3, 10, 1);
    due.is("told again: the greatest one as it is now", x.code(1, 0, 0), 2);
    x.light(1, 6);
    x.tick(3);
    due.is("what was told, not what is left", x.code(1, 3, 0), 2);
    Due.act(x, "u=6?1;u=8?2", 1);
    x.tick(1);
    x.change(1, 8, 0);
    due.is("use as known at 3", x.code(1, 3, 0), 1);
    due.is("use as known at 4", x.code(1, 4, 0), 2);
  }

  static void days() {
    due.part("days from a look");
    CityBrigade x = new CityBrigade();
    x.house(0, 0, 1, 1, -1);
    Due.act(x, "l=0?1;l=1?2;l=2?3;l=999?4", 1);
    due.is("without a look", x.code(0, 0, 0), 4);
    x.tick(20);
    x.look(0);
    for (int i = 0; i < 4; i++) x.tick(300);
    x.tick(239);
    due.is("NOW", x.count(0), 1459);
    due.is("1,439 minutes", x.code(0, 1459, 0), 1);
    x.tick(1);
    due.is("a day", x.code(0, 1460, 0), 2);
    due.is("as known at 20", x.code(0, 20, 0), 1);
    due.is("as known at 19", x.code(0, 19, 0), 4);
    x.look(0);
    due.is("a later look", x.code(0, 1460, 0), 1);
    due.is("as known ahead of it", x.code(0, 1459, 0), 1);
  }

  static void failing() {
    due.part("promise 41");
    CityBrigade x = new CityBrigade();
    due.is("an empty city", x.failing(), 0);
    for (int i = 0; i < 12; i++) x.house(i, 0, 1 + i % 3, 1, -1);
    due.is("without an act", x.failing(), 0);
    Due.act(x, "s=3?1", 1);
    due.is("houses 2, 5, 8, 11", x.failing(), 1 << 2 | 1 << 5 | 1 << 8 | 1 << 11);
    Due.act(x, "s>1?1;s>2?2", 2);
    x.build(1, false, 0, 2);
    due.is("and 1 by its own act", x.failing(), 1 << 1 | 1 << 2 | 1 << 5 | 1 << 8 | 1 << 11);
    Due.act(x, "1=2?1", 1);
    due.is("as known NOW", x.failing(), 1 << 1);
  }

  static void firstOnes() {
    due.part("the first of all");
    CityBrigade x = new CityBrigade();
    x.house(0, 0, 2, 1, -1);
    x.change(0, 3, 0);
    due.no("use behind the first change", x.use(0, 1));
    x.floor(0, 0, 50, 0);
    Due.act(x, "g=50?1", 1);
    due.is("the greatest one is on floor 0", x.fails(0, 0), 1);
    due.is("house 0 fails", x.failing(), 1);
  }
}
