/** Promises 8 to 15: meals, toil, water, handing on, days, the crown, noons, undoing. */
public final class ActsTest {
  public static void main(String[] args) {
    eat();
    toil();
    drink();
    amountsRefused();
    hand();
    handRefused();
    day();
    dayAtTheFloor();
    crown();
    crownOfLikeOnes();
    noon();
    undo();
    undoOfEachAct();
    rowOfSixteen();
    Checks.end("ActsTest");
  }

  private static void eat() {
    LightestRules x = Checks.land("R000P20095P30010");
    Checks.due("eat(0, 1)", x.eat(0, 1), 208);
    Checks.due("loaves", x.person(0, 1), 8);
    Checks.due("at noon as before", x.person(0, 4), 200 + 72 + 50);
    Checks.due("eat(0, 9)", x.eat(0, 9), Checks.STATE);
    Checks.due("eat(0, 8)", x.eat(0, 8), 272);
    Checks.due("loaves", x.person(0, 1), 0);
    Checks.due("stones stay", x.person(0, 2), 5);
    Checks.due("eat(0, 1) of none", x.eat(0, 1), Checks.STATE);
    Checks.due("acts", x.count(3), 2);
    Checks.due("eat(1, 2) of one", x.eat(1, 2), Checks.STATE);
    Checks.due("eat(1, 1)", x.eat(1, 1), 308);
    x.day();
    Checks.due("what was eaten stays", x.person(1, 0), 308);
    Checks.due("eat(0, 9) of nine", Checks.land("R000P20090").eat(0, 9), 272);
  }

  private static void toil() {
    LightestRules x = Checks.land("R000P10099P30000");
    Checks.due("toil(0, 1)", x.toil(0, 1), 95);
    Checks.due("toil(0, 9)", x.toil(0, 9), 50);
    Checks.due("toil(0, 9)", x.toil(0, 9), 5);
    Checks.due("toil(0, 1) to the floor", x.toil(0, 1), 1);
    Checks.due("toil(0, 1) on the floor", x.toil(0, 1), 1);
    Checks.due("that was an act too", x.count(3), 5);
    Checks.due("toil(1, 4)", x.toil(1, 4), 280);
    Checks.due("pockets stay", x.person(0, 4), 1 + 72 + 90);
    LightestRules six = Checks.land("R000P10100");
    six.toil(0, 9);
    six.toil(0, 9);
    Checks.due("from 11", six.toil(0, 1), 6);
    Checks.due("from 6", six.toil(0, 1), 1);
  }

  private static void drink() {
    LightestRules x = Checks.land("R010P20011");
    Checks.due("drink(0, 1)", x.drink(0, 1), 203);
    Checks.due("drunk", x.person(0, 3), 3);
    Checks.due("drink(0, 9)", x.drink(0, 9), 230);
    x.drink(0, 9);
    x.drink(0, 9);
    Checks.due("drunk", x.person(0, 3), 84);
    Checks.due("drink(0, 3) would be 93", x.drink(0, 3), Checks.STATE);
    Checks.due("drink(0, 2) is 90", x.drink(0, 2), 290);
    Checks.due("drink(0, 1) would be 93", x.drink(0, 1), Checks.STATE);
    Checks.due("acts", x.count(3), 5);
    x.day();
    Checks.due("gone with the day", x.person(0, 0), 198);
    Checks.due("drunk", x.person(0, 3), 0);
    Checks.due("drink(0, 1) next day", x.drink(0, 1), 201);
    x.toil(0, 1);
    Checks.due("toil leaves what was drunk", x.person(0, 3), 3);
  }

  private static void amountsRefused() {
    LightestRules x = Checks.land("R000P20095P30010");
    String before = Checks.look(x);
    int[] bad = {0, 10, -1, Integer.MIN_VALUE, Integer.MAX_VALUE};
    for (int n : bad) {
      Checks.due("eat(0, " + n + ")", x.eat(0, n), Checks.OUTSIDE);
      Checks.due("toil(0, " + n + ")", x.toil(0, n), Checks.OUTSIDE);
      Checks.due("drink(0, " + n + ")", x.drink(0, n), Checks.OUTSIDE);
      Checks.due("eat(2, " + n + "): UNKNOWN first", x.eat(2, n), Checks.UNKNOWN);
      Checks.due("toil(2, " + n + "): UNKNOWN first", x.toil(2, n), Checks.UNKNOWN);
      Checks.due("drink(2, " + n + "): UNKNOWN first", x.drink(2, n), Checks.UNKNOWN);
    }
    for (int wild : Checks.WILD) {
      Checks.due("eat(" + wild + ", 1)", x.eat(wild, 1), Checks.UNKNOWN);
      Checks.due("toil(" + wild + ", 1)", x.toil(wild, 1), Checks.UNKNOWN);
      Checks.due("drink(" + wild + ", 1)", x.drink(wild, 1), Checks.UNKNOWN);
    }
    Checks.due("eat(1, 9): STATE", x.eat(1, 9), Checks.STATE);
    Checks.due("eat(1, 10): OUTSIDE ahead of STATE", x.eat(1, 10), Checks.OUTSIDE);
    Checks.same("what is refused changes nothing", Checks.look(x), before);
    for (int i = 0; i < 3; i++) {
      x.drink(0, 9);
    }
    x.drink(0, 3);
    Checks.due("drink(0, 10) of 90: OUTSIDE ahead of STATE", x.drink(0, 10), Checks.OUTSIDE);
  }

  private static void hand() {
    LightestRules x = Checks.land("R000P20025P30013");
    Checks.due("hand a loaf", x.hand(0, 1, false), 2);
    Checks.due("loaves left", x.person(0, 1), 1);
    Checks.due("stones stay", x.person(0, 2), 5);
    Checks.due("its stones stay", x.person(1, 2), 3);
    Checks.due("hand a stone", x.hand(1, 0, true), 6);
    Checks.due("stones left", x.person(1, 2), 2);
    Checks.due("loaves stay", x.person(1, 1), 2);
    Checks.due("at noon", x.person(0, 4), 200 + 8 + 60);
    Checks.due("weight as before", x.person(0, 0), 200);
    Checks.due("acts", x.count(3), 2);
    Checks.due("the last loaf", x.hand(0, 1, false), 3);
    Checks.due("no loaf is left", x.hand(0, 1, false), Checks.STATE);
  }

  private static void handRefused() {
    LightestRules x = Checks.land("R000P20092P30098P40001");
    String before = Checks.look(x);
    Checks.due("the other has 9", x.hand(0, 1, false), Checks.FULL);
    Checks.due("both are one", x.hand(0, 0, true), Checks.STATE);
    Checks.due("both are one, with 9: STATE ahead of FULL", x.hand(0, 0, false), Checks.STATE);
    Checks.due("there is none, the other has 9: STATE ahead of FULL", x.hand(2, 0, false), Checks.STATE);
    Checks.due("there is none", x.hand(2, 2, false), Checks.STATE);
    Checks.due("hand(3, 0)", x.hand(3, 0, true), Checks.UNKNOWN);
    Checks.due("hand(0, 3)", x.hand(0, 3, true), Checks.UNKNOWN);
    Checks.due("hand(3, 3): UNKNOWN first", x.hand(3, 3, true), Checks.UNKNOWN);
    for (int wild : Checks.WILD) {
      Checks.due("hand(" + wild + ", 0)", x.hand(wild, 0, true), Checks.UNKNOWN);
      Checks.due("hand(0, " + wild + ")", x.hand(0, wild, false), Checks.UNKNOWN);
    }
    Checks.same("what is refused changes nothing", Checks.look(x), before);
    Checks.due("the ninth stone", x.hand(0, 1, true), 9);
    Checks.due("a tenth stone", x.hand(0, 1, true), Checks.FULL);
    Checks.due("a loaf for one with none", x.hand(0, 2, false), 1);
  }

  private static void day() {
    LightestRules x = Checks.land("R030P20011P30000");
    Checks.due("day()", x.day(), 1);
    Checks.due("burnt", x.person(0, 0), 194);
    Checks.due("burnt too", x.person(1, 0), 294);
    x.drink(1, 5);
    x.eat(0, 1);
    Checks.due("day()", x.day(), 2);
    Checks.due("what was drunk is gone", x.person(1, 0), 288);
    Checks.due("what was eaten stays", x.person(0, 0), 196);
    Checks.due("stones stay", x.person(0, 2), 1);
    Checks.due("count(2)", x.count(2), 2);
    Checks.due("acts", x.count(3), 4);
    LightestRules none = new LightestRules();
    Checks.due("day() of nobody", none.day(), 1);
    Checks.due("no burn", Checks.land("R000P10000").day(), 1);
  }

  private static void dayAtTheFloor() {
    LightestRules x = Checks.land("R090P10000");
    for (int i = 0; i < 5; i++) {
      x.day();
    }
    Checks.due("100 less 90", x.person(0, 0), 10);
    x.day();
    Checks.due("one ounce is left", x.person(0, 0), 1);
    x.drink(0, 9);
    x.toil(0, 9);
    Checks.due("toiled off", x.person(0, 0), 1);
    Checks.due("though it drank", x.person(0, 3), 27);
    x.day();
    Checks.due("one ounce is left", x.person(0, 0), 1);
    Checks.due("nothing drunk is left", x.person(0, 3), 0);
  }

  private static void crown() {
    LightestRules x = Checks.land("R005P21000P19901P20511P50000");
    Checks.due("by law 0, 209 ounces", x.crown(), 1);
    x.law(1);
    Checks.due("by law 1, 210 ounces", x.crown(), 0);
    x.law(2);
    Checks.due("by law 2, 199 alone is ill", x.crown(), 0);
    Checks.due("who is ill", x.count(8), 2);
    x.eat(2, 1);
    x.drink(0, 9);
    Checks.due("by law 2, pockets and water count", x.crown(), 2);
    Checks.due("crown() is no act", x.count(3), 2);
    Checks.due("and crowns nobody", x.count(9), 0);
    Checks.due("law 2, all ill", Checks.land("R209P10000P20000").crown(), Checks.NONE);
    Checks.due("law 1, one alone", Checks.land("R100P10000").crown(), Checks.NONE);
    Checks.due("law 0, one alone, ill", Checks.land("R009P10000").crown(), 0);
    Checks.due("law 1, all ill", Checks.land("R109P10000P20000").crown(), 1);
    Checks.due("law 0, nobody", Checks.land("R000").crown(), Checks.NONE);
    Checks.due("law 1, nobody", Checks.land("R100").crown(), Checks.NONE);
    Checks.due("law 2, nobody", Checks.land("R200").crown(), Checks.NONE);
    Checks.due("law 2, just not ill", Checks.land("R205P19900P20000P20100").crown(), 1);
  }

  private static void crownOfLikeOnes() {
    LightestRules x = Checks.land("R000P25000P20000P20000P19001");
    Checks.due("law 0, of like ones the least", x.crown(), 1);
    x.law(1);
    Checks.due("law 1, the second of like ones", x.crown(), 2);
    LightestRules five = Checks.land("R000P20000P20000P20000P20000P20000");
    Checks.due("law 0, all alike", five.crown(), 0);
    five.law(1);
    Checks.due("law 1, all alike", five.crown(), 1);
    five.law(2);
    Checks.due("law 2, all alike", five.crown(), 0);
    LightestRules behind = Checks.land("R100P30000P30000P20000");
    Checks.due("law 1, the lightest is told last", behind.crown(), 0);
  }

  private static void noon() {
    LightestRules x = Checks.land("R000P21000P20000");
    Checks.due("noon()", x.noon(), 1);
    Checks.due("ruled", x.person(1, 6), 1);
    Checks.due("noon()", x.noon(), 1);
    x.law(1);
    Checks.due("noon() by law 1", x.noon(), 0);
    Checks.due("ruled twice", x.person(1, 6), 2);
    Checks.due("ruled once", x.person(0, 6), 1);
    Checks.due("count(9)", x.count(9), 3);
    Checks.due("acts", x.count(3), 3);
    Checks.due("no day goes by", x.count(2), 0);
    LightestRules none = Checks.land("R209P10000");
    Checks.due("noon() with none", none.noon(), Checks.NONE);
    Checks.due("it is an act all the same", none.count(3), 1);
    Checks.due("nobody was crowned", none.count(9), 0);
    Checks.due("it can be undone", none.undo(), 0);
  }

  private static void undo() {
    LightestRules x = Checks.land("R010P20011P30000");
    Checks.due("undo() of none", x.undo(), Checks.STATE);
    x.eat(0, 1);
    x.toil(1, 2);
    x.eat(0, 5);
    Checks.due("what was refused is no act", x.count(3), 2);
    Checks.due("undo()", x.undo(), 1);
    Checks.due("toil undone", x.person(1, 0), 300);
    Checks.due("the meal stands", x.person(0, 0), 208);
    Checks.due("undo()", x.undo(), 0);
    Checks.due("the meal is undone", x.person(0, 0), 200);
    Checks.due("the loaf is back", x.person(0, 1), 1);
    Checks.due("undo() of none", x.undo(), Checks.STATE);
    x.day();
    Checks.due("count(3) behind it", x.count(3), 1);
  }

  private static void undoOfEachAct() {
    LightestRules x = Checks.land("R090P10055P30055");
    x.drink(0, 7);
    for (int i = 0; i < 2; i++) {
      x.toil(0, 9);
    }
    String[] seen = new String[8];
    for (int act = 0; act < 8; act++) {
      seen[act] = Checks.look(x);
      actOf(x, act);
    }
    for (int act = 7; act >= 0; act--) {
      Checks.due("undo() of act " + act, x.undo(), act + 3);
      Checks.same("behind undo() of act " + act, Checks.look(x), seen[act]);
    }
  }

  private static void actOf(LightestRules x, int act) {
    switch (act) {
      case 0: x.eat(0, 2); break;
      case 1: x.toil(0, 9); break;
      case 2: x.drink(1, 4); break;
      case 3: x.hand(0, 1, true); break;
      case 4: x.hand(1, 0, false); break;
      case 5: x.day(); break;
      case 6: x.noon(); break;
      default: x.day(); break;
    }
  }

  private static void rowOfSixteen() {
    LightestRules x = Checks.land("R000P90000");
    for (int i = 1; i <= 40; i++) {
      x.toil(0, 1);
      Checks.due("acts behind " + i, x.count(3), Math.min(i, 16));
    }
    for (int i = 15; i >= 0; i--) {
      Checks.due("undo()", x.undo(), i);
      Checks.due("weight", x.person(0, 0), 900 - 5 * (24 + i));
    }
    Checks.due("the first ones are forgotten", x.undo(), Checks.STATE);
    Checks.due("weight", x.person(0, 0), 780);
    for (int i = 1; i <= 17; i++) {
      x.toil(0, 2);
    }
    for (int i = 0; i < 16; i++) {
      x.undo();
    }
    Checks.due("weight", x.person(0, 0), 770);
    Checks.due("undo()", x.undo(), Checks.STATE);
  }
}
