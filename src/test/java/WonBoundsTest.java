/** Promises 16 to 18 at their bounds, each case by itself. */
public final class WonBoundsTest {
  private static final int[] NO_DAYS = {0, 6, -1, 257, Integer.MIN_VALUE, Integer.MAX_VALUE};
  private static final int[] NO_TOIL = {-1, 10, 256, Integer.MIN_VALUE, Integer.MAX_VALUE};
  private static final int[] NOT_THERE = {-1, 3, 4, 5, 256, Integer.MIN_VALUE, Integer.MAX_VALUE};

  public static void main(String[] args) throws IllegalAccessException {
    Cases.runAll(WonBoundsTest.class);
  }

  /** The least squares of so much toil in d days, found by trying all days' shares one by one. */
  private static int harmOf(int toil, int d) {
    int[] plan = new int[d];
    for (int left = toil; left > 0; left--) {
      int least = d - 1;
      for (int i = d - 1; i >= 0; i--) {
        least = plan[i] < plan[least] ? i : least;
      }
      plan[least]++;
    }
    int harm = 0;
    for (int n : plan) {
      harm += n * n;
    }
    return harm;
  }

  // ---- promise 16: sure

  /** Heavier by each number of ounces than one told behind: to be alike is enough, 9 each DAY are the most. */
  static void sureAgainstOneToldBehind() {
    for (int d = 1; d <= 5; d++) {
      for (int over = -6; over <= 45 * d + 6; over++) {
        LightestRules x = Checks.land("R000P" + (500 + over) + "00P50000");
        int toil = over <= 0 ? 0 : (over + 4) / 5;
        Checks.due(over + " ounces in " + d, x.sure(0, d, 0), toil > 9 * d ? Checks.NONE : harmOf(toil, d));
      }
    }
  }

  /** The same against one told ahead: it must be an ounce lighter. */
  static void sureAgainstOneToldAhead() {
    for (int d = 1; d <= 5; d++) {
      for (int over = -6; over <= 45 * d + 6; over++) {
        LightestRules x = Checks.land("R000P50000P" + (500 + over) + "00");
        int toil = over < 0 ? 0 : over / 5 + 1;
        Checks.due(over + " ounces in " + d, x.sure(1, d, 0), toil > 9 * d ? Checks.NONE : harmOf(toil, d));
      }
    }
  }

  /** "x (0 to 9)": what the other one may TOIL by, each of these DAYS. */
  static void sureAgainstEachToil() {
    for (int d = 1; d <= 5; d++) {
      for (int against = 0; against <= 9; against++) {
        LightestRules x = Checks.land("R000P60000P60000");
        Checks.due("alike", x.sure(0, d, against), d * against * against);
        int toil = d * against + 1;
        Checks.due("told behind", x.sure(1, d, against), against == 9 ? Checks.NONE : harmOf(toil, d));
      }
    }
  }

  /** 9 on each of 5 DAYS is the most harm there is: 405; one ounce more can not be. */
  static void sureWithAllToil() {
    Checks.due("225 ounces", Checks.land("R000P72500P50000").sure(0, 5, 0), 405);
    Checks.due("226 ounces", Checks.land("R000P72600P50000").sure(0, 5, 0), Checks.NONE);
    Checks.due("224 ounces, told behind", Checks.land("R000P50000P72400").sure(1, 5, 0), 405);
    Checks.due("225 ounces, told behind", Checks.land("R000P50000P72500").sure(1, 5, 0), Checks.NONE);
    Checks.due("45 ounces in a day", Checks.land("R000P54500P50000").sure(0, 1, 0), 81);
    Checks.due("46 ounces in a day", Checks.land("R000P54600P50000").sure(0, 1, 0), Checks.NONE);
  }

  /** No harm: the lightest already. */
  static void sureWithNoToil() {
    Checks.due("told ahead, alike", Checks.land("R000P50000P50000").sure(0, 1, 0), 0);
    Checks.due("45 ounces lighter against 9", Checks.land("R000P50000P54500").sure(0, 1, 9), 0);
    Checks.due("44 ounces lighter against 9", Checks.land("R000P50000P54400").sure(0, 1, 9), 1);
    Checks.due("told behind, 46 lighter", Checks.land("R000P54600P50000").sure(1, 1, 9), 0);
    Checks.due("told behind, 45 lighter", Checks.land("R000P54500P50000").sure(1, 1, 9), 1);
  }

  /** "lighter by LAW 0 than each other one": the lightest of four others counts, wherever it stands. */
  static void sureAgainstEachOfFive() {
    for (int lightest = 0; lightest < 5; lightest++) {
      for (int person = 0; person < 5; person++) {
        StringBuilder text = new StringBuilder("R000");
        for (int i = 0; i < 5; i++) {
          text.append('P').append(i == lightest ? 500 : i == person ? 520 : 600).append("00");
        }
        int due = person == lightest ? 0 : person < lightest ? 16 : 25;
        Checks.due("sure(" + person + ") of " + text, Checks.land(text.toString()).sure(person, 1, 0), due);
      }
    }
  }

  /** "1 ounce is left at least", of the others: on the floor their toil is no use. */
  static void sureAgainstTheFloor() {
    LightestRules ahead = Checks.weighing("R000", "00", 30, 20);
    Checks.due("both to one ounce", ahead.sure(0, 1, 9), 36);
    LightestRules behind = Checks.weighing("R000", "00", 20, 30);
    Checks.due("one ounce against one ounce told ahead", behind.sure(1, 1, 9), Checks.NONE);
    LightestRules floor = Checks.weighing("R000", "00", 1, 1);
    Checks.due("there already", floor.sure(0, 5, 9), 0);
    Checks.due("told behind", floor.sure(1, 5, 9), Checks.NONE);
    LightestRules apart = Checks.weighing("R000", "00", 2, 1);
    Checks.due("two ounces against one", apart.sure(0, 1, 0), 1);
    LightestRules stone = Checks.land("R000P10001P10000");
    Checks.due("a stone on the floor", stone.sure(0, 5, 9), Checks.NONE);
  }

  /** Its own floor: the least toil to it, not more. */
  static void sureToItsOwnFloor() {
    for (int weight = 1; weight <= 50; weight++) {
      LightestRules x = Checks.weighing("R000", "00", weight, 1);
      int toil = (weight - 1 + 4) / 5;
      Checks.due("from " + weight, x.sure(0, 1, 0), toil > 9 ? Checks.NONE : toil * toil);
    }
  }

  /** "all DAYS burn": each BURN 0 to 9 takes from all alike, but for the floor. */
  static void sureBurns() {
    for (int burn = 0; burn <= 9; burn++) {
      for (int d = 1; d <= 5; d++) {
        Checks.due("far from the floor", Checks.land("R0" + burn + "0P52000P50000").sure(0, d, 0), harmOf(4, d));
        LightestRules x = Checks.weighing("R0" + burn + "0", "00", 60, 40);
        int other = Math.max(1, 40 - 2 * burn * d);
        int toil = 0;
        while (Math.max(1, 60 - 2 * burn * d - 5 * toil) > other) {
          toil++;
        }
        Checks.due("BURN " + burn + " in " + d, x.sure(0, d, 0), harmOf(toil, d));
      }
    }
  }

  /** "nobody eats, drinks, hands on": what was drunk today goes, what is carried stays. */
  static void sureWithWaterAndPockets() {
    LightestRules x = Checks.land("R000P50000P50000");
    for (int i = 0; i < 10; i++) {
      x.drink(0, 3);
    }
    Checks.due("90 ounces of water are gone", x.sure(0, 1, 0), 0);
    Checks.due("and are no help for the other", x.sure(1, 1, 0), 1);
    Checks.due("9 loaves are 72 ounces", Checks.land("R000P50090P57200").sure(0, 1, 0), 0);
    Checks.due("one ounce more", Checks.land("R000P50090P57100").sure(0, 1, 0), 1);
    Checks.due("9 stones are 90 ounces", Checks.land("R000P50009P59000").sure(0, 1, 0), 0);
    Checks.due("one ounce more", Checks.land("R000P50009P58900").sure(0, 1, 0), 1);
  }

  /** By LAW 0, whatever the LAW is and whoever is ILL. */
  static void sureByLawZero() {
    for (int law = 0; law <= 2; law++) {
      LightestRules x = Checks.land("R" + law + "09P12000P10000");
      Checks.due("sure(0) where the law is " + law, x.sure(0, 1, 0), 16);
      Checks.due("sure(1) where the law is " + law, x.sure(1, 1, 0), 0);
    }
  }

  /** "d DAYS (1 to 5)". */
  static void sureBesideOneToFiveDays() {
    for (int d : NO_DAYS) {
      Twins.unchanged("sure(0, " + d + ", 0)", Twins::livedIn, x -> x.sure(0, d, 0), Checks.OUTSIDE);
    }
  }

  /** "against x (0 to 9)". */
  static void sureBesideNoneToNine() {
    for (int against : NO_TOIL) {
      Twins.unchanged("sure(0, 1, " + against + ")", Twins::livedIn, x -> x.sure(0, 1, against), Checks.OUTSIDE);
    }
  }

  /** "UNKNOWN". */
  static void sureOfNobody() {
    for (int person : NOT_THERE) {
      Twins.unchanged("sure(" + person + ", 1, 1)", Twins::livedIn, x -> x.sure(person, 1, 1), Checks.UNKNOWN);
    }
  }

  /** "STATE: it is alone"; with one other it is not. */
  static void sureOfOneAlone() {
    Twins.unchanged("sure(0, 1, 0)", () -> Checks.land("R000P50000"), x -> x.sure(0, 1, 0), Checks.STATE);
    Twins.unchanged("sure(0, 5, 9)", () -> Checks.land("R000P50000"), x -> x.sure(0, 5, 9), Checks.STATE);
    Checks.due("with one other", Checks.land("R000P50000P90000").sure(0, 1, 0), 0);
  }

  /** UNKNOWN, then OUTSIDE, then STATE. */
  static void sureTellsTheFirstRefusal() {
    LightestRules alone = Checks.land("R000P50000");
    Checks.due("unknown and outside", alone.sure(1, 0, 10), Checks.UNKNOWN);
    Checks.due("unknown and alone", alone.sure(1, 1, 0), Checks.UNKNOWN);
    Checks.due("d and alone", alone.sure(0, 6, 0), Checks.OUTSIDE);
    Checks.due("x and alone", alone.sure(0, 1, 10), Checks.OUTSIDE);
  }

  /** To ask changes nothing, found or not. */
  static void sureChangesNothing() {
    Twins.unchanged("sure(2, 1, 0)", Twins::livedIn, x -> x.sure(2, 1, 0), Checks.NONE);
    long harm = Twins.livedIn().sure(2, 5, 0);
    Twins.unchanged("sure(2, 5, 0)", Twins::livedIn, x -> x.sure(2, 5, 0), harm);
  }

  // ---- promise 17: sureAt

  /** "of like ones the plan with least on the first DAY, then on the second": each toil in each d. */
  static void sureAtOfEachToil() {
    for (int d = 1; d <= 5; d++) {
      for (int toil = 0; toil <= 9 * d; toil++) {
        LightestRules x = Checks.land("R000P" + (500 + 5 * toil) + "00P50000");
        int before = 0;
        int together = 0;
        int squares = 0;
        for (int i = 0; i < d; i++) {
          int now = x.sureAt(0, d, 0, i);
          Checks.due("no less than the day before, and one more at most", now >= before && now <= toil / d + 1 ? 1 : 0, 1);
          Checks.due("the first ones are " + toil / d, now, i < d - toil % d ? toil / d : toil / d + 1);
          before = now;
          together += now;
          squares += now * now;
        }
        Checks.due("together", together, toil);
        Checks.due("the harm", squares, x.sure(0, d, 0));
      }
    }
  }

  /** "the i-th DAY (from 0)", "NONE: there is none such": the first and the last, and beside them. */
  static void sureAtBesideItsDays() {
    for (int d = 1; d <= 5; d++) {
      int days = d;
      LightestRules x = Checks.land("R000P51500P50000");
      int last = x.sureAt(0, d, 0, d - 1);
      Checks.due("the last day", last, (3 + d - 1) / d);
      int[] beside = {-1, d, 5, 6, Integer.MIN_VALUE, Integer.MAX_VALUE};
      for (int i : beside) {
        if (i < 0 || i >= d) {
          Twins.unchanged("sureAt(0, " + d + ", 0, " + i + ")", () -> Checks.land("R000P51500P50000"),
              y -> y.sureAt(0, days, 0, i), Checks.NONE);
        }
      }
    }
  }

  /** "NONE: there is none such": no plan, so no DAY of it. */
  static void sureAtOfNoPlan() {
    for (int i = -1; i <= 1; i++) {
      int day = i;
      Twins.unchanged("sureAt(0, 1, 0, " + i + ")", () -> Checks.land("R000P54600P50000"),
          x -> x.sureAt(0, 1, 0, day), Checks.NONE);
    }
    Checks.due("one ounce less", Checks.land("R000P54500P50000").sureAt(0, 1, 0, 0), 9);
  }

  /** "OUTSIDE: d, x", whatever i is. */
  static void sureAtBesideDaysAndToil() {
    for (int d : NO_DAYS) {
      Twins.unchanged("sureAt(0, " + d + ", 0, 0)", Twins::livedIn, x -> x.sureAt(0, d, 0, 0), Checks.OUTSIDE);
      Checks.due("sureAt(0, " + d + ", 0, -1)", Twins.livedIn().sureAt(0, d, 0, -1), Checks.OUTSIDE);
    }
    for (int against : NO_TOIL) {
      Twins.unchanged("sureAt(0, 1, " + against + ", 0)", Twins::livedIn, x -> x.sureAt(0, 1, against, 0), Checks.OUTSIDE);
      Checks.due("sureAt(0, 1, " + against + ", 5)", Twins.livedIn().sureAt(0, 1, against, 5), Checks.OUTSIDE);
    }
  }

  /** "UNKNOWN". */
  static void sureAtOfNobody() {
    for (int person : NOT_THERE) {
      Twins.unchanged("sureAt(" + person + ", 1, 1, 0)", Twins::livedIn, x -> x.sureAt(person, 1, 1, 0), Checks.UNKNOWN);
      Checks.due("and all else wrong", Twins.livedIn().sureAt(person, 0, 10, -1), Checks.UNKNOWN);
    }
  }

  /** "STATE": alone, for each i; behind OUTSIDE. */
  static void sureAtOfOneAlone() {
    int[] days = {0, 1, -1, Integer.MAX_VALUE};
    for (int i : days) {
      Twins.unchanged("sureAt(0, 1, 0, " + i + ")", () -> Checks.land("R000P50000"),
          x -> x.sureAt(0, 1, 0, i), Checks.STATE);
    }
    Checks.due("d and alone", Checks.land("R000P50000").sureAt(0, 0, 0, 0), Checks.OUTSIDE);
    Checks.due("x and alone", Checks.land("R000P50000").sureAt(0, 1, 10, 0), Checks.OUTSIDE);
  }

  // ---- promise 18: feed

  /** "the fewest LOAVES": 8 ounces each, against one told behind (alike is enough) and one told ahead. */
  static void feedByEachOunce() {
    for (int over = -10; over <= 100; over++) {
      int behind = over <= 0 ? 0 : (over + 7) / 8;
      Checks.due(over + " over one told behind", Checks.land("R000P" + (500 + over) + "00P50000").feed(0), behind);
      int ahead = over < 0 ? 0 : over / 8 + 1;
      Checks.due(over + " over one told ahead", Checks.land("R000P50000P" + (500 + over) + "00").feed(1), ahead);
    }
  }

  /** None: the lightest already, or alone. */
  static void feedOfTheLightest() {
    Checks.due("alone", Checks.land("R000P50099").feed(0), 0);
    Checks.due("the lightest of five", Checks.land("R000P50000P40000P30000P20000P10000").feed(4), 0);
    Checks.due("alike, told first", Checks.land("R000" + "P50000".repeat(5)).feed(0), 0);
    Checks.due("alike, told last", Checks.land("R000" + "P50000".repeat(5)).feed(4), 4);
  }

  /** "any number each (here also more than 9)". */
  static void feedWithMoreThanNine() {
    Checks.due("72 ounces: 9", Checks.land("R000P57200P50000").feed(0), 9);
    Checks.due("73 ounces: 10", Checks.land("R000P57300P50000").feed(0), 10);
    Checks.due("one that has 9 gets more", Checks.land("R000P60000P50090").feed(0), 4);
    Checks.due("all there is, four others", Checks.land("R000P99999P10000P10000P10000P10000").feed(0), 4 * 133);
    Checks.due("the same, told last", Checks.land("R000P10000P10000P10000P10000P99999").feed(4), 4 * 133);
  }

  /** "AT NOON now": what is carried and drunk weighs, on both sides; the floor too. */
  static void feedByWhatIsCarried() {
    Checks.due("a stone", Checks.land("R000P50001P50000").feed(0), 2);
    Checks.due("a loaf", Checks.land("R000P50010P50000").feed(0), 1);
    LightestRules x = Checks.land("R000P50000P50000");
    x.drink(0, 3);
    Checks.due("9 ounces of water", x.feed(0), 2);
    x.drink(1, 3);
    Checks.due("on both sides", x.feed(0), 0);
    LightestRules floor = Checks.weighing("R000", "00", 9, 1);
    Checks.due("9 ounces against one", floor.feed(0), 1);
    Checks.due("one ounce against nine", floor.feed(1), 0);
  }

  /** The lightest by LAW 0, whatever the LAW is and whoever is ILL. */
  static void feedWhateverTheLaw() {
    for (int law = 0; law <= 2; law++) {
      Checks.due("law " + law, Checks.land("R" + law + "09P12000P10000").feed(0), 3);
      Checks.due("law " + law, Checks.land("R" + law + "09P12000P10000").feed(1), 0);
    }
  }

  /** "UNKNOWN"; to ask changes nothing. */
  static void feedOfNobody() {
    for (int person : NOT_THERE) {
      Twins.unchanged("feed(" + person + ")", Twins::livedIn, x -> x.feed(person), Checks.UNKNOWN);
    }
    long loaves = Twins.livedIn().feed(2);
    Twins.unchanged("feed(2)", Twins::livedIn, x -> x.feed(2), loaves);
  }
}
