/** Promises 8 to 15 at their bounds, each case by itself. */
public final class ActsBoundsTest {
  private static final int[] NO_AMOUNT = {0, 10, -1, -9, 257, Integer.MIN_VALUE, Integer.MAX_VALUE};
  private static final int[] NOT_THERE = {-1, 3, 4, 5, 256, Integer.MIN_VALUE, Integer.MAX_VALUE};

  public static void main(String[] args) throws IllegalAccessException {
    Cases.runAll(ActsBoundsTest.class);
  }

  // ---- promise 8: eat

  /** "n (1 to 9)", "STATE: it has not as many": each n of each number of LOAVES. */
  static void eatEachNumberOfEach() {
    for (int loaves = 0; loaves <= 9; loaves++) {
      for (int n = 1; n <= 9; n++) {
        LightestRules x = Checks.land("R000P200" + loaves + "3");
        boolean enough = n <= loaves;
        Checks.due("eat(0, " + n + ") of " + loaves, x.eat(0, n), enough ? 200 + 8 * n : Checks.STATE);
        Checks.due("loaves", x.person(0, 1), enough ? loaves - n : loaves);
        Checks.due("stones", x.person(0, 2), 3);
        Checks.due("acts", x.count(3), enough ? 1 : 0);
      }
    }
  }

  /** "OUTSIDE: n (1 to 9)". */
  static void eatBesideOneToNine() {
    for (int n : NO_AMOUNT) {
      Twins.unchanged("eat(0, " + n + ")", Twins::livedIn, x -> x.eat(0, n), Checks.OUTSIDE);
    }
  }

  /** "UNKNOWN". */
  static void eatOfNobody() {
    for (int person : NOT_THERE) {
      Twins.unchanged("eat(" + person + ", 1)", Twins::livedIn, x -> x.eat(person, 1), Checks.UNKNOWN);
    }
  }

  /** "STATE: it has not as many", and nothing changes. */
  static void eatOfTooFew() {
    Twins.unchanged("eat(0, 9) of few", Twins::livedIn, x -> x.eat(0, 9), Checks.STATE);
    Twins.unchanged("eat(0, 1) of none", () -> Checks.land("R000P20009"), x -> x.eat(0, 1), Checks.STATE);
    Twins.unchanged("eat(0, 9) of eight", () -> Checks.land("R000P20080"), x -> x.eat(0, 9), Checks.STATE);
  }

  /** UNKNOWN, then OUTSIDE, then STATE. */
  static void eatTellsTheFirstRefusal() {
    Checks.due("unknown and outside", Checks.land("R000P20000").eat(1, 10), Checks.UNKNOWN);
    Checks.due("unknown and too many", Checks.land("R000P20000").eat(1, 9), Checks.UNKNOWN);
    Checks.due("outside and too many", Checks.land("R000P20000").eat(0, 10), Checks.OUTSIDE);
    Checks.due("outside, none of none", Checks.land("R000P20000").eat(0, 0), Checks.OUTSIDE);
  }

  /** WEIGHT has no upper bound: one of 999 eats and is heavier. */
  static void eatBeyondThreeFigures() {
    LightestRules x = Checks.land("R000P99990P10090");
    Checks.due("eat(0, 9)", x.eat(0, 9), 1071);
    for (int i = 1; i <= 9; i++) {
      Checks.due("hand", x.hand(1, 0, false), i);
    }
    Checks.due("eat(0, 9)", x.eat(0, 9), 1143);
    Checks.due("at noon", x.person(0, 4), 1143);
  }

  // ---- promise 9: toil

  /** "5 ounces less each, 1 at least are left": each n at each WEIGHT about the floor. */
  static void toilAboutTheFloor() {
    for (int n = 1; n <= 9; n++) {
      for (int weight = Math.max(1, 5 * n - 2); weight <= 5 * n + 3; weight++) {
        LightestRules x = Checks.weighing("R000", "11", weight);
        int left = weight > 5 * n ? weight - 5 * n : 1;
        Checks.due("toil(0, " + n + ") of " + weight, x.toil(0, n), left);
        Checks.due("at noon", x.person(0, 4), left + 18);
      }
    }
  }

  /** On the floor it stays there, and TOILS all the same. */
  static void toilOnTheFloor() {
    for (int n = 1; n <= 9; n++) {
      LightestRules x = Checks.weighing("R000", "00", 1);
      int acts = x.count(3);
      Checks.due("toil(0, " + n + ")", x.toil(0, n), 1);
      Checks.due("it is an act", x.count(3), acts + 1);
      Checks.due("undo()", x.undo(), acts);
      Checks.due("weight", x.person(0, 0), 1);
    }
  }

  /** What the floor held back comes not back: undone it weighs what it did. */
  static void toilToTheFloorUndone() {
    LightestRules x = Checks.weighing("R000", "00", 3);
    Checks.due("toil(0, 9)", x.toil(0, 9), 1);
    x.undo();
    Checks.due("weight", x.person(0, 0), 3);
  }

  /** "It TOILS by n (1 to 9)", "OUTSIDE: n". */
  static void toilBesideOneToNine() {
    for (int n : NO_AMOUNT) {
      Twins.unchanged("toil(0, " + n + ")", Twins::livedIn, x -> x.toil(0, n), Checks.OUTSIDE);
    }
    Checks.due("toil(0, 1)", Checks.land("R000P20000").toil(0, 1), 195);
    Checks.due("toil(0, 9)", Checks.land("R000P20000").toil(0, 9), 155);
  }

  /** "UNKNOWN", ahead of OUTSIDE too. */
  static void toilOfNobody() {
    for (int person : NOT_THERE) {
      Twins.unchanged("toil(" + person + ", 1)", Twins::livedIn, x -> x.toil(person, 1), Checks.UNKNOWN);
      Checks.due("toil(" + person + ", 0)", Twins.livedIn().toil(person, 0), Checks.UNKNOWN);
      Checks.due("toil(" + person + ", 10)", Twins.livedIn().toil(person, 10), Checks.UNKNOWN);
    }
  }

  /** The last of five toils, and no other one is lighter. */
  static void toilOfTheLastOne() {
    LightestRules x = Checks.land("R000P20000P20000P20000P20000P20000");
    Checks.due("toil(4, 9)", x.toil(4, 9), 155);
    for (int person = 0; person < 4; person++) {
      Checks.due("another one", x.person(person, 0), 200);
    }
  }

  // ---- promise 10: drink

  /** "STATE: that it drank more than 90 ounces today": each n behind each that was drunk. */
  static void drinkUpToNinety() {
    for (int before = 0; before <= 30; before++) {
      for (int n = 1; n <= 9; n++) {
        LightestRules x = watered(before);
        int acts = x.count(3);
        boolean fits = 3 * before + 3 * n <= 90;
        int then = before + (fits ? n : 0);
        Checks.due(3 * before + " and drink(0, " + n + ")", x.drink(0, n), fits ? 200 + 3 * then : Checks.STATE);
        Checks.due("drunk", x.person(0, 3), 3 * then);
        Checks.due("weight", x.person(0, 0), 200 + 3 * then);
        Checks.due("acts", x.count(3), fits ? acts + 1 : acts);
      }
    }
  }

  private static LightestRules watered(int drinks) {
    LightestRules x = Checks.land("R010P20000P20000");
    for (int left = drinks; left > 0; left -= 9) {
      x.drink(0, Math.min(9, left));
    }
    return x;
  }

  /** More than 90 is refused and changes nothing. */
  static void drinkBeyondNinety() {
    Twins.unchanged("drink(0, 1) behind 90", () -> watered(30), x -> x.drink(0, 1), Checks.STATE);
    Twins.unchanged("drink(0, 9) behind 66", () -> watered(22), x -> x.drink(0, 9), Checks.STATE);
    Checks.due("drink(0, 9) behind 63", watered(21).drink(0, 9), 290);
  }

  /** "today": the next DAY it drinks 90 again. */
  static void drinkNinetyEachDay() {
    LightestRules x = watered(30);
    x.day();
    Checks.due("weight", x.person(0, 0), 198);
    for (int i = 1; i <= 3; i++) {
      Checks.due("drink(0, 9)", x.drink(0, 9), 198 + 27 * i);
    }
    Checks.due("drink(0, 4)", x.drink(0, 4), Checks.STATE);
    Checks.due("drink(0, 3)", x.drink(0, 3), 288);
  }

  /** Another one's water does not count. */
  static void drinkBesideAnotherOne() {
    LightestRules x = watered(30);
    Checks.due("drink(1, 9)", x.drink(1, 9), 227);
    Checks.due("drunk", x.person(1, 3), 27);
    Checks.due("the first one's", x.person(0, 3), 90);
  }

  /** What is undone was not drunk. */
  static void drinkUndone() {
    LightestRules x = watered(30);
    x.undo();
    Checks.due("drunk", x.person(0, 3), 81);
    Checks.due("drink(0, 4)", x.drink(0, 4), Checks.STATE);
    Checks.due("drink(0, 3)", x.drink(0, 3), 290);
  }

  /** "It DRINKS n (1 to 9)", "OUTSIDE: n". */
  static void drinkBesideOneToNine() {
    for (int n : NO_AMOUNT) {
      Twins.unchanged("drink(0, " + n + ")", Twins::livedIn, x -> x.drink(0, n), Checks.OUTSIDE);
    }
    Checks.due("drink(0, 1)", Checks.land("R000P20000").drink(0, 1), 203);
    Checks.due("drink(0, 9)", Checks.land("R000P20000").drink(0, 9), 227);
  }

  /** "UNKNOWN". */
  static void drinkOfNobody() {
    for (int person : NOT_THERE) {
      Twins.unchanged("drink(" + person + ", 1)", Twins::livedIn, x -> x.drink(person, 1), Checks.UNKNOWN);
    }
  }

  /** UNKNOWN, then OUTSIDE, then STATE. */
  static void drinkTellsTheFirstRefusal() {
    Checks.due("unknown and outside", watered(30).drink(2, 10), Checks.UNKNOWN);
    Checks.due("outside behind 90", watered(30).drink(0, 10), Checks.OUTSIDE);
    Checks.due("none behind 90", watered(30).drink(0, 0), Checks.OUTSIDE);
  }

  // ---- promise 11: hand

  /** "STATE: .. there is none; FULL: the other one has 9": each number of both. */
  static void handEachToEach() {
    for (int own = 0; own <= 9; own++) {
      for (int others = 0; others <= 9; others++) {
        int due = own == 0 ? Checks.STATE : others == 9 ? Checks.FULL : others + 1;
        LightestRules loaf = Checks.land("R000P200" + own + "5P200" + others + "5");
        Checks.due("a loaf, " + own + " to " + others, loaf.hand(0, 1, false), due);
        handed(loaf, 1, own, others, due > 0);
        LightestRules stone = Checks.land("R000P2005" + own + "P2005" + others);
        Checks.due("a stone, " + own + " to " + others, stone.hand(0, 1, true), due);
        handed(stone, 2, own, others, due > 0);
      }
    }
  }

  private static void handed(LightestRules x, int what, int own, int others, boolean done) {
    Checks.due("own", x.person(0, what), done ? own - 1 : own);
    Checks.due("the other's", x.person(1, what), done ? others + 1 : others);
    Checks.due("the other kind", x.person(0, 3 - what), 5);
    Checks.due("the other's other kind", x.person(1, 3 - what), 5);
    Checks.due("weight", x.person(0, 0), 200);
    Checks.due("acts", x.count(3), done ? 1 : 0);
  }

  /** From each of five to each: "STATE: both are one". */
  static void handFromEachToEach() {
    for (int from = 0; from < 5; from++) {
      for (int to = 0; to < 5; to++) {
        for (int kind = 0; kind < 2; kind++) {
          LightestRules x = Checks.land("R000P20011P20022P20033P20044P20055");
          int due = from == to ? Checks.STATE : to + 2;
          Checks.due("hand(" + from + ", " + to + ")", x.hand(from, to, kind == 1), due);
          Checks.due("left", x.person(from, 1 + kind), from == to ? from + 1 : from);
        }
      }
    }
  }

  /** "STATE: both are one", with some, with none, with 9. */
  static void handToOneself() {
    String[] pockets = {"00", "55", "99"};
    for (String pocket : pockets) {
      Twins.unchanged("hand(0, 0, false)", () -> Checks.land("R000P200" + pocket), x -> x.hand(0, 0, false), Checks.STATE);
      Twins.unchanged("hand(0, 0, true)", () -> Checks.land("R000P200" + pocket), x -> x.hand(0, 0, true), Checks.STATE);
    }
    Twins.unchanged("hand(2, 2, true)", Twins::livedIn, x -> x.hand(2, 2, true), Checks.STATE);
  }

  /** "STATE: .. there is none", though there is one of the other kind. */
  static void handOfNone() {
    Twins.unchanged("no loaf", () -> Checks.land("R000P20009P20000"), x -> x.hand(0, 1, false), Checks.STATE);
    Twins.unchanged("no stone", () -> Checks.land("R000P20090P20000"), x -> x.hand(0, 1, true), Checks.STATE);
  }

  /** "FULL: the other one has 9", and nothing changes; 9 of the other kind are no matter. */
  static void handToOneWithNine() {
    Twins.unchanged("a tenth loaf", () -> Checks.land("R000P20011P20098"), x -> x.hand(0, 1, false), Checks.FULL);
    Twins.unchanged("a tenth stone", () -> Checks.land("R000P20011P20089"), x -> x.hand(0, 1, true), Checks.FULL);
    Checks.due("a ninth stone beside nine loaves", Checks.land("R000P20011P20098").hand(0, 1, true), 9);
    Checks.due("a ninth loaf beside nine stones", Checks.land("R000P20011P20089").hand(0, 1, false), 9);
  }

  /** "UNKNOWN: both": the one, the other, both. */
  static void handOfNobody() {
    for (int person : NOT_THERE) {
      Twins.unchanged("hand(" + person + ", 0)", Twins::livedIn, x -> x.hand(person, 0, true), Checks.UNKNOWN);
      Twins.unchanged("hand(0, " + person + ")", Twins::livedIn, x -> x.hand(0, person, true), Checks.UNKNOWN);
      Twins.unchanged("hand of both", Twins::livedIn, x -> x.hand(person, person, false), Checks.UNKNOWN);
    }
  }

  /** UNKNOWN, then STATE, then FULL. */
  static void handTellsTheFirstRefusal() {
    Checks.due("unknown, of none", Checks.land("R000P20000P20099").hand(0, 2, false), Checks.UNKNOWN);
    Checks.due("unknown, to nine", Checks.land("R000P20000P20099").hand(2, 1, false), Checks.UNKNOWN);
    Checks.due("of none, to nine", Checks.land("R000P20000P20099").hand(0, 1, false), Checks.STATE);
    Checks.due("to oneself with nine", Checks.land("R000P20000P20099").hand(1, 1, true), Checks.STATE);
  }

  // ---- promise 12: day

  /** "each is lighter by 2 times BURN (1 ounce is left at least)": each BURN about the floor. */
  static void dayAboutTheFloor() {
    for (int burn = 0; burn <= 9; burn++) {
      for (int weight = Math.max(1, 2 * burn - 2); weight <= 2 * burn + 3; weight++) {
        LightestRules x = Checks.weighing("R0" + burn + "0", "11", weight, 200);
        int left = weight > 2 * burn ? weight - 2 * burn : 1;
        Checks.due("day()", x.day(), 1);
        Checks.due("BURN " + burn + " of " + weight, x.person(0, 0), left);
        Checks.due("at noon", x.person(0, 4), left + 18);
        Checks.due("another one", x.person(1, 0), 200 - 2 * burn);
      }
    }
  }

  /** "what was drunk is gone": from none to 90. */
  static void dayTakesTheWater() {
    for (int drinks = 0; drinks <= 30; drinks++) {
      LightestRules x = watered(drinks);
      x.day();
      Checks.due("weight", x.person(0, 0), 198);
      Checks.due("drunk", x.person(0, 3), 0);
    }
  }

  /** Water on the floor: what was toiled off it is not gone twice below one ounce. */
  static void dayTakesTheWaterOnTheFloor() {
    for (int weight = 1; weight <= 12; weight++) {
      LightestRules x = Checks.weighing("R020", "00", weight);
      Checks.due("drink(0, 1)", x.drink(0, 1), weight + 3);
      x.day();
      Checks.due("weight", x.person(0, 0), Math.max(1, weight - 4));
      LightestRules toiled = Checks.weighing("R020", "00", weight);
      toiled.drink(0, 1);
      int left = Math.max(1, weight + 3 - 5);
      Checks.due("toil(0, 1)", toiled.toil(0, 1), left);
      toiled.day();
      Checks.due("weight", toiled.person(0, 0), Math.max(1, left - 3 - 4));
      Checks.due("drunk", toiled.person(0, 3), 0);
    }
  }

  /** THE DAY counts, from 0 on, where there is nobody too. */
  static void dayCounts() {
    LightestRules x = new LightestRules();
    for (int day = 1; day <= 40; day++) {
      Checks.due("day()", x.day(), day);
      Checks.due("count(2)", x.count(2), day);
    }
    Checks.due("acts", x.count(3), 16);
  }

  /** An object is used for 512 calls: the last one of so many DAYS answers 512. */
  static void dayOfTheLastCall() {
    LightestRules x = new LightestRules();
    for (int day = 1; day <= 512; day++) {
      Checks.due("day()", x.day(), day);
    }
  }

  /** Each of five is lighter, LOAVES and STONES stay. */
  static void dayOfFive() {
    LightestRules x = Checks.land("R070P10012P20034P30056P40078P50090");
    x.day();
    int[] stones = {2, 4, 6, 8, 0};
    for (int person = 0; person < 5; person++) {
      Checks.due("weight", x.person(person, 0), 100 * (person + 1) - 14);
      Checks.due("loaves", x.person(person, 1), 2 * person + 1);
      Checks.due("stones", x.person(person, 2), stones[person]);
    }
  }

  /** An undone DAY brings THE DAY, WEIGHT and water back, from the floor too. */
  static void dayUndone() {
    LightestRules x = Checks.weighing("R090", "00", 5);
    x.drink(0, 2);
    x.day();
    Checks.due("weight", x.person(0, 0), 1);
    x.undo();
    Checks.due("weight", x.person(0, 0), 11);
    Checks.due("drunk", x.person(0, 3), 6);
    Checks.due("the day", x.count(2), 0);
  }

  // ---- promise 13: crown

  /** "NONE: there is no such one": of nobody, by each LAW. */
  static void crownOfNobody() {
    for (int law = 0; law <= 2; law++) {
      int now = law;
      Twins.unchanged("crown()", () -> Checks.land("R" + now + "00"), x -> x.crown(), Checks.NONE);
    }
  }

  /** Of one alone: by LAW 1 there is no second lightest. */
  static void crownOfOne() {
    Checks.due("law 0", Checks.land("R000P20000").crown(), 0);
    Checks.due("law 1", Checks.land("R100P20000").crown(), Checks.NONE);
    Checks.due("law 2, not ill", Checks.land("R205P20000").crown(), 0);
    Checks.due("law 2, ill", Checks.land("R205P19900").crown(), Checks.NONE);
    Checks.due("law 0, ill", Checks.land("R005P19900").crown(), 0);
  }

  /** Of two an ounce apart, and alike: "of like ones the least PERSON is lighter". */
  static void crownOfTwo() {
    for (int second = 199; second <= 201; second++) {
      int lightest = second < 200 ? 1 : 0;
      Checks.due("law 0, " + second, Checks.land("R000P20000P" + second + "00").crown(), lightest);
      Checks.due("law 1, " + second, Checks.land("R100P20000P" + second + "00").crown(), 1 - lightest);
      Checks.due("law 2, " + second, Checks.land("R200P20000P" + second + "00").crown(), lightest);
    }
  }

  /** Five of whom some are alike: the lightest, the second lightest wherever they stand. */
  static void crownOfFive() {
    for (int first = 0; first < 5; first++) {
      for (int second = 0; second < 5; second++) {
        if (first != second) {
          crownOfFive(first, second, 198, 199);
          crownOfFive(Math.min(first, second), Math.max(first, second), 199, 199);
        }
      }
    }
    Checks.due("all alike, law 0", Checks.land("R000" + "P20000".repeat(5)).crown(), 0);
    Checks.due("all alike, law 1", Checks.land("R100" + "P20000".repeat(5)).crown(), 1);
    Checks.due("all alike, law 2", Checks.land("R200" + "P20000".repeat(5)).crown(), 0);
  }

  private static void crownOfFive(int first, int second, int least, int next) {
    StringBuilder text = new StringBuilder("R000");
    for (int person = 0; person < 5; person++) {
      text.append('P').append(person == first ? least : person == second ? next : 200).append("00");
    }
    LightestRules x = Checks.land(text.toString());
    Checks.due("law 0 of " + text, x.crown(), first);
    x.law(1);
    Checks.due("law 1 of " + text, x.crown(), second);
    x.law(2);
    Checks.due("law 2 of " + text, x.crown(), first);
  }

  /** "by LAW 2 to the lightest that is not ILL": one at the bound, all, none ILL. */
  static void crownOfTheIll() {
    Checks.due("the lightest is ill", Checks.land("R205P19900P20000P20100").crown(), 1);
    Checks.due("none is ill", Checks.land("R205P20000P20100P20200").crown(), 0);
    Checks.due("all are ill", Checks.land("R205P19900P19800P10000").crown(), Checks.NONE);
    Checks.due("only the heaviest is not", Checks.land("R209P35900P36000P30000").crown(), 1);
    Checks.due("ill, though heavy by stones", Checks.land("R205P19909P28000").crown(), 1);
    Checks.due("of like ones the least that is not ill", Checks.land("R205P19901P20001P21000").crown(), 1);
  }

  /** By LAW 1 the ILL count as the others do. */
  static void crownOfTheSecondThatIsIll() {
    Checks.due("crown()", Checks.land("R109P10000P20000P90000").crown(), 1);
  }

  /** LOAVES, STONES and water weigh AT NOON. */
  static void crownByWhatIsCarried() {
    Checks.due("a loaf is 8: alike", Checks.land("R000P20800P20010").crown(), 0);
    Checks.due("a loaf is 8: one less", Checks.land("R000P20900P20010").crown(), 1);
    Checks.due("a stone is 10: alike", Checks.land("R000P21000P20001").crown(), 0);
    Checks.due("a stone is 10: one less", Checks.land("R000P21100P20001").crown(), 1);
    LightestRules x = Checks.land("R000P20000P20300");
    x.drink(0, 1);
    Checks.due("water: alike", x.crown(), 0);
    x.drink(0, 1);
    Checks.due("water: heavier", x.crown(), 1);
  }

  /** To ask crowns nobody. */
  static void crownChangesNothing() {
    Twins.unchanged("crown()", Twins::livedIn, x -> x.crown(), Twins.livedIn().crown());
  }

  // ---- promise 14: noon

  /** "NONE (it is an ACT all the same)": of nobody, of one alone by LAW 1, of the ILL by LAW 2. */
  static void noonOfNone() {
    String[] lands = {"R000", "R100", "R200", "R100P20000", "R205P19900", "R209P10000P20000"};
    for (String land : lands) {
      LightestRules x = Checks.land(land);
      Checks.due("noon() of " + land, x.noon(), Checks.NONE);
      Checks.due("acts", x.count(3), 1);
      Checks.due("noons", x.count(9), 0);
      for (int person = 0; person < x.count(1); person++) {
        Checks.due("ruled", x.person(person, 6), 0);
      }
      Checks.due("undo()", x.undo(), 0);
    }
  }

  /** NOONS of none fill the row and push out the first ACT. */
  static void noonOfNoneFillsTheRow() {
    LightestRules x = Checks.land("R100P20000");
    x.toil(0, 1);
    for (int i = 0; i < 16; i++) {
      x.noon();
    }
    Checks.due("acts", x.count(3), 16);
    for (int i = 15; i >= 0; i--) {
      Checks.due("undo()", x.undo(), i);
    }
    Checks.due("undo()", x.undo(), Checks.STATE);
    Checks.due("the toil is forgotten", x.person(0, 0), 195);
  }

  /** "who is crowned has ruled once more": only that one, as crown() told. */
  static void noonCrownsOne() {
    for (int law = 0; law <= 2; law++) {
      LightestRules x = Checks.land("R" + law + "05P19900P20500P20500P30000P90000");
      int who = x.crown();
      Checks.due("noon()", x.noon(), who);
      for (int person = 0; person < 5; person++) {
        Checks.due("ruled", x.person(person, 6), person == who ? 1 : 0);
      }
      Checks.due("noons", x.count(9), 1);
      Checks.due("the day", x.count(2), 0);
    }
  }

  /** Three calls tell the land, 508 are NOONS: the 512th is still answered. */
  static void noonOfTheLastCalls() {
    LightestRules x = Checks.land("R000P10000");
    for (int noon = 0; noon < 508; noon++) {
      x.noon();
    }
    Checks.due("ruled, the 512th call", x.person(0, 6), 508);
  }

  // ---- promise 15: undo

  /** "STATE: there is none": at first, behind the last one, behind land(), behind again(). */
  static void undoOfNone() {
    Twins.unchanged("undo()", LightestRules::new, x -> x.undo(), Checks.STATE);
    Twins.unchanged("undo() of a told land", () -> Checks.land("R015P20011"), x -> x.undo(), Checks.STATE);
    Twins.unchanged("undo() behind again()", () -> goneOn(), x -> x.undo(), Checks.STATE);
    Twins.unchanged("undo() behind all", () -> allUndone(), x -> x.undo(), Checks.STATE);
  }

  private static LightestRules goneOn() {
    LightestRules x = Twins.livedIn();
    x.again(1);
    return x;
  }

  private static LightestRules allUndone() {
    LightestRules x = Twins.livedIn();
    for (int left = x.count(3); left > 0; left--) {
      x.undo();
    }
    return x;
  }

  /** "a row (16 at most; of more the first one is forgotten)": rows of 0 to 40 ACTS. */
  static void undoOfEachLength() {
    for (int acts = 0; acts <= 40; acts++) {
      LightestRules x = Checks.land("R000P90000");
      for (int i = 0; i < acts; i++) {
        x.toil(0, 1);
      }
      int kept = Math.min(16, acts);
      Checks.due("count(3)", x.count(3), kept);
      for (int left = kept - 1; left >= 0; left--) {
        Checks.due("undo()", x.undo(), left);
      }
      Checks.due("undo()", x.undo(), Checks.STATE);
      Checks.due("weight behind " + acts, x.person(0, 0), 900 - 5 * (acts - kept));
    }
  }

  /** "the first one is forgotten": of each kind. */
  static void undoForgetsEachKind() {
    for (int kind = 0; kind < 6; kind++) {
      LightestRules x = Checks.land("R020P20055P30055");
      doAct(x, kind);
      String behindIt = people(x);
      for (int i = 0; i < 16; i++) {
        x.toil(1, 1);
      }
      for (int i = 0; i < 16; i++) {
        x.undo();
      }
      Checks.due("undo()", x.undo(), Checks.STATE);
      Checks.same("the first act, of kind " + kind + ", stands", people(x), behindIt);
    }
  }

  /** The last one of 16 of each kind is undone just as it was. */
  static void undoOfEachKind() {
    for (int kind = 0; kind < 6; kind++) {
      LightestRules x = Checks.land("R020P20099P30000");
      String first = people(x);
      doAct(x, kind);
      String second = people(x);
      doAct(x, kind);
      Checks.due("undo() of kind " + kind, x.undo(), 1);
      Checks.same("the second of kind " + kind, people(x), second);
      Checks.due("undo() of kind " + kind, x.undo(), 0);
      Checks.same("the first of kind " + kind, people(x), first);
    }
  }

  private static void doAct(LightestRules x, int kind) {
    int acts = x.count(3);
    switch (kind) {
      case 0: x.eat(0, 2); break;
      case 1: x.toil(0, 3); break;
      case 2: x.drink(0, 4); break;
      case 3: x.hand(0, 1, true); break;
      case 4: x.day(); break;
      default: x.noon(); break;
    }
    Checks.due("it is an act", x.count(3), acts + 1);
  }

  private static String people(LightestRules x) {
    StringBuilder seen = new StringBuilder().append(x.count(2)).append('|').append(x.count(9));
    for (int person = 0; person < 2; person++) {
      for (int what = 0; what < 7; what++) {
        seen.append(' ').append(x.person(person, what));
      }
    }
    return seen.toString();
  }

  /** Undone ones make room: 16 more are remembered again, round the ring. */
  static void undoMakesRoom() {
    LightestRules x = Checks.land("R000P90000");
    for (int i = 0; i < 20; i++) {
      x.toil(0, 1);
    }
    for (int i = 0; i < 5; i++) {
      x.undo();
    }
    Checks.due("count(3)", x.count(3), 11);
    for (int i = 0; i < 5; i++) {
      x.toil(0, 2);
    }
    Checks.due("count(3)", x.count(3), 16);
    x.toil(0, 3);
    Checks.due("count(3)", x.count(3), 16);
    int[] toils = {3, 2, 2, 2, 2, 2, 1, 1, 1, 1, 1, 1, 1, 1, 1, 1};
    int weight = 900 - 75 - 50 - 15;
    for (int i = 0; i < 16; i++) {
      Checks.due("undo()", x.undo(), 15 - i);
      weight += 5 * toils[i];
      Checks.due("weight", x.person(0, 0), weight);
    }
    Checks.due("undo()", x.undo(), Checks.STATE);
  }

  /** What is refused or only asks is no ACT. */
  static void undoOfWhatIsNoAct() {
    LightestRules x = Checks.land("R000P20000P20000");
    x.eat(0, 1);
    x.toil(0, 0);
    x.drink(2, 1);
    x.hand(0, 1, true);
    x.law(1);
    x.crown();
    x.write(1, 'P');
    x.weigh(1, 2, 0);
    x.search(1, 1);
    x.ruled(0);
    x.seed(5);
    x.reign(0, 0);
    x.keep(0);
    x.sure(0, 1, 1);
    x.feed(0);
    Checks.due("count(3)", x.count(3), 0);
    Checks.due("undo()", x.undo(), Checks.STATE);
  }

  /** An undone ACT leaves what is no ACT. */
  static void undoLeavesTheRest() {
    LightestRules x = Checks.land("R000P20000P20000");
    x.noon();
    x.law(1);
    x.write(1, 'P');
    x.weigh(1, 2, 0);
    x.search(1, 1);
    x.ruled(0);
    x.seed(5);
    x.keep(0);
    Checks.due("undo()", x.undo(), 0);
    int[] due = {17, 2, 0, 0, 1, 1, 1, 1, 0, 0};
    for (int what = 0; what < 10; what++) {
      Checks.due("count(" + what + ")", x.count(what), due[what]);
    }
    Checks.due("the seed", x.seed(0), 5);
    Checks.due("again(0)", x.again(0), 0);
    Checks.due("kept with its noon", x.count(9), 1);
  }
}
