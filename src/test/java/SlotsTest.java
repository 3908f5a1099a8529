/** Promises 31 to 33: the people kept and gone on from, and what is counted. */
public final class SlotsTest {
  public static void main(String[] args) {
    keep();
    again();
    twoSlots();
    whatIsNotKept();
    slotsRefused();
    count();
    countRefused();
    Checks.end("SlotsTest");
  }

  private static void keep() {
    LightestRules x = Checks.land("R020P20033P30011");
    Checks.due("keep(0)", x.keep(0), 0);
    x.day();
    x.day();
    String before = Checks.look(x);
    Checks.due("keep(1)", x.keep(1), 2);
    Checks.same("keep() changes nothing", Checks.look(x), before);
    Checks.due("keep() is no act", x.count(3), 2);
    Checks.due("undo() goes on behind keep()", x.undo(), 1);
    Checks.due("what was kept is not undone", x.again(1), 2);
  }

  private static void again() {
    LightestRules x = Checks.land("R020P20033P30011");
    x.day();
    x.noon();
    x.drink(0, 2);
    x.eat(1, 1);
    x.keep(0);
    int[] kept = seen(x);
    x.day();
    x.noon();
    x.noon();
    x.hand(0, 1, true);
    x.hand(0, 1, false);
    x.toil(1, 4);
    Checks.due("again(0)", x.again(0), 1);
    int[] now = seen(x);
    for (int i = 0; i < kept.length; i++) {
      Checks.due("as it was kept, " + i, now[i], kept[i]);
    }
    Checks.due("the day", x.count(2), 1);
    Checks.due("no acts in the row", x.count(3), 0);
    Checks.due("noons", x.count(9), 1);
    Checks.due("nothing to undo", x.undo(), Checks.STATE);
    Checks.due("day() goes on", x.day(), 2);
    Checks.due("again(0) once more", x.again(0), 1);
    Checks.due("kept anew", x.keep(0), 1);
    x.day();
    x.keep(0);
    x.day();
    Checks.due("again(0) of the last keep", x.again(0), 2);
  }

  private static int[] seen(LightestRules x) {
    int[] seen = new int[14];
    for (int i = 0; i < 14; i++) {
      seen[i] = x.person(i / 7, i % 7);
    }
    return seen;
  }

  private static void twoSlots() {
    LightestRules x = Checks.land("R020P20033P30011");
    x.keep(0);
    x.day();
    Checks.due("again(1) of none", x.again(1), Checks.STATE);
    x.keep(1);
    x.day();
    Checks.due("again(0)", x.again(0), 0);
    Checks.due("weight", x.person(0, 0), 200);
    Checks.due("again(1)", x.again(1), 1);
    Checks.due("weight", x.person(0, 0), 196);
    LightestRules second = Checks.land("R020P20033");
    second.keep(1);
    Checks.due("again(0), only the other one is kept", second.again(0), Checks.STATE);
    Checks.due("again(1)", second.again(1), 0);
  }

  private static void whatIsNotKept() {
    LightestRules x = Checks.land("R020P20033P30011");
    x.keep(0);
    x.law(2);
    x.seed(12);
    x.weigh(1, 2, 0);
    x.search(1, 4);
    x.ruled(1);
    x.write(1, 'P');
    x.again(0);
    Checks.due("the law", x.count(7), 2);
    Checks.due("weighings", x.count(4), 1);
    Checks.due("searches", x.count(5), 1);
    Checks.due("the line", x.count(6), 1);
    Checks.due("the text", x.count(0), 17);
    Checks.due("the seed", x.seed(0), 12);
  }

  private static void slotsRefused() {
    LightestRules x = Checks.land("R020P20033P30011");
    x.day();
    String before = Checks.look(x);
    int[] bad = {-1, 2, Integer.MIN_VALUE, Integer.MAX_VALUE, 32, 33};
    for (int slot : bad) {
      Checks.due("keep(" + slot + ")", x.keep(slot), Checks.UNKNOWN);
      Checks.due("again(" + slot + ")", x.again(slot), Checks.UNKNOWN);
    }
    Checks.due("again(0)", x.again(0), Checks.STATE);
    Checks.due("again(1)", x.again(1), Checks.STATE);
    Checks.same("what is refused changes nothing", Checks.look(x), before);
  }

  private static void count() {
    LightestRules x = Checks.land("R124P15000P17000P10000");
    x.day();
    x.day();
    x.noon();
    x.weigh(1, 2, 0);
    x.weigh(1, 2, 0);
    x.search(1, 4);
    x.search(1, 4);
    x.search(1, 4);
    x.ruled(1);
    x.ruled(1);
    int[] due = {22, 3, 2, 3, 2, 3, 2, 1, 5, 1};
    for (int what = 0; what < 10; what++) {
      Checks.due("count(" + what + ")", x.count(what), due[what]);
    }
    x.undo();
    Checks.due("an undone noon is not counted", x.count(9), 0);
    x.law(2);
    x.noon();
    x.noon();
    Checks.due("count(9)", x.count(9), 2);
    Checks.due("162 is not ill", x.person(1, 6), 2);
  }

  private static void countRefused() {
    LightestRules x = Checks.land("R124P15000");
    Checks.due("count(10)", x.count(10), Checks.OUTSIDE);
    for (int wild : Checks.WILD) {
      Checks.due("count(" + wild + ")", x.count(wild), Checks.OUTSIDE);
    }
  }
}
