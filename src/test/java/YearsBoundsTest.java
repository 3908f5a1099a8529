import java.math.BigInteger;

/** Promises 29 and 30 at their bounds, each case by itself. */
public final class YearsBoundsTest {
  /** The ends of 64 bits, of 31 and 32 and 33 of them, and what steps just over an end. */
  private static final long[] SEEDS = {
    0, 1, -1, 2, Long.MAX_VALUE, Long.MIN_VALUE, Long.MAX_VALUE - 1, Long.MIN_VALUE + 1, Integer.MAX_VALUE,
    Integer.MIN_VALUE, 1L << 31, 1L << 32, 1L << 33, (1L << 33) - 1, -(1L << 33), 6364136223846793005L,
    -1442695040888963407L, 1442695040888963407L, 0x5555555555555555L, 0xaaaaaaaaaaaaaaaaL,
  };

  public static void main(String[] args) throws IllegalAccessException {
    Cases.runAll(YearsBoundsTest.class);
  }

  // ---- promise 29: seed

  /** "THE SEED, a long; 0 at first". */
  static void seedAtFirst() {
    Checks.due("seed(5)", new LightestRules().seed(5), 0);
    Checks.due("seed(0)", new LightestRules().seed(0), 0);
  }

  /** "THE SEED is v: what it was": each long, the ends too. */
  static void seedOfEachEnd() {
    LightestRules x = new LightestRules();
    long was = 0;
    for (long v : SEEDS) {
      Checks.due("seed(" + v + ")", x.seed(v), was);
      was = v;
    }
    Checks.due("seed(0)", x.seed(0), was);
  }

  /** It is no ACT and stands apart from THE LAND. */
  static void seedStandsApart() {
    LightestRules x = Twins.livedIn();
    String before = Checks.look(x);
    Checks.due("seed(8)", x.seed(8), -77);
    Checks.same("all else", Checks.look(x), before);
    x.undo();
    x.again(0);
    x.wipe();
    Checks.due("seed(0)", x.seed(0), 8);
  }

  // ---- promise 30: reign

  /** "64 bits, wrapping": from each end, by each LAW, with one to five PEOPLE. */
  static void reignFromEachEnd() {
    for (int people = 1; people <= 5; people++) {
      for (int law = 0; law <= 2; law++) {
        LightestRules x = Checks.land("R035P20500P20210P20020P20001P19800".substring(0, 4 + 6 * people));
        for (long seed : SEEDS) {
          compareYear(x, 5, seed, law);
        }
      }
    }
  }

  /** "x becomes x times .. and ..": twelve steps for each PERSON, wrapped. */
  static void reignStepsTheSeed() {
    for (int people = 1; people <= 5; people++) {
      for (long seed : SEEDS) {
        LightestRules x = Checks.land("R000" + "P20000".repeat(people));
        x.seed(seed);
        x.reign(0, 0);
        BigInteger due = BigInteger.valueOf(seed);
        for (int i = 0; i < 12 * people; i++) {
          due = PlainYear.step(due);
        }
        Checks.due("the seed from " + seed, x.seed(0), due.longValue());
      }
    }
  }

  /** "12 months": the most one rules, and none. */
  static void reignOfAllMonths() {
    LightestRules x = Checks.land("R000P10000P40000P99900");
    for (long seed : SEEDS) {
      x.seed(seed);
      Checks.due("the far lightest, law 0", x.reign(0, 0), 12);
      Checks.due("the second, law 0", x.reign(1, 0), 0);
      Checks.due("the second, law 1", x.reign(1, 1), 12);
      Checks.due("the lightest, law 1", x.reign(0, 1), 0);
      Checks.due("the last, law 1", x.reign(2, 1), 0);
      Checks.due("nobody is ill, law 2", x.reign(0, 2), 12);
    }
  }

  /** Where THE CROWN goes to none nobody rules, and THE SEED steps all the same. */
  static void reignOfNone() {
    LightestRules alone = Checks.land("R100P20000");
    alone.seed(7);
    Checks.due("alone, law 1", alone.reign(0, 1), 0);
    BigInteger due = BigInteger.valueOf(7);
    for (int i = 0; i < 12; i++) {
      due = PlainYear.step(due);
    }
    Checks.due("the seed", alone.seed(7), due.longValue());
    Checks.due("alone, law 0", alone.reign(0, 0), 12);
    LightestRules ill = Checks.land("R009P10000P10000");
    Checks.due("all are ill, law 2", ill.reign(0, 2), 0);
    Checks.due("all are ill, law 2", ill.reign(1, 2), 0);
  }

  /** "below 0 lighter; 1 ounce is left at least": people on the floor and just above it. */
  static void reignAtTheFloor() {
    for (int weight = 1; weight <= 17; weight += 4) {
      for (int law = 0; law <= 2; law++) {
        LightestRules x = Checks.weighing("R000", "00", 1, weight, 1);
        for (long seed = 0; seed < 12; seed++) {
          compareYear(x, 0, seed, law);
        }
      }
    }
  }

  /** By LAW 2 one falls ILL and heals within the year, about 40 times ILL. */
  static void reignOfTheIll() {
    for (int ill = 1; ill <= 9; ill++) {
      LightestRules x = Checks.weighing("R00" + ill, "00", 40 * ill - 1, 40 * ill, 40 * ill + 1);
      for (long seed : SEEDS) {
        compareYear(x, ill, seed, 2);
      }
    }
  }

  private static void compareYear(LightestRules x, int ill, long seed, int law) {
    int people = x.count(1);
    int[] weights = new int[people];
    int[] pockets = new int[people];
    for (int i = 0; i < people; i++) {
      weights[i] = x.person(i, 0);
      pockets[i] = x.person(i, 4) - weights[i];
    }
    PlainYear plain = new PlainYear(weights, pockets, ill);
    plain.live(seed, law);
    for (int person = 0; person < people; person++) {
      x.seed(seed);
      Checks.due("reign(" + person + ", " + law + ") by " + seed, x.reign(person, law), plain.months(person));
      Checks.due("the seed behind it", x.seed(0), plain.seed());
    }
  }

  /** A year goes on with the seed of the last one, from the same PEOPLE. */
  static void reignGoesOn() {
    LightestRules once = Checks.land("R000P20000P20000");
    once.seed(9);
    once.reign(0, 0);
    long between = once.seed(9);
    LightestRules twice = Checks.land("R000P20000P20000");
    twice.seed(9);
    twice.reign(0, 0);
    int second = twice.reign(0, 0);
    LightestRules apart = Checks.land("R000P20000P20000");
    apart.seed(between);
    Checks.due("the second year", apart.reign(0, 0), second);
    Checks.due("its seed", apart.seed(0), twice.seed(0));
  }

  /** "(Nothing changes but THE SEED.)" */
  static void reignChangesTheSeedAlone() {
    for (int law = 0; law <= 2; law++) {
      int by = law;
      Twins.unchanged("reign by " + law + ", the seed put back", Twins::livedIn, x -> seedPutBack(x, by), -77);
    }
  }

  private static long seedPutBack(LightestRules x, int law) {
    x.reign(1, law);
    x.seed(-77);
    long was = x.seed(5);
    x.seed(was);
    return was;
  }

  /** By the LAW that is told, not the one of THE LAND; what was drunk weighs the whole year, nothing burns. */
  static void reignByTheToldLaw() {
    for (int law = 0; law <= 2; law++) {
      LightestRules x = Checks.land("R" + law + "90P10000P40000");
      Checks.due("law 0 where it is " + law, x.reign(0, 0), 12);
      Checks.due("law 1 where it is " + law, x.reign(1, 1), 12);
      Checks.due("count(7)", x.count(7), law);
    }
    LightestRules drunk = Checks.land("R090P20000P20000P20300");
    drunk.drink(1, 1);
    for (long seed : SEEDS) {
      compareYear(drunk, 0, seed, 0);
    }
  }

  /** "OUTSIDE: law": the first on both sides that is none; THE SEED stays. */
  static void reignBesideTheLaws() {
    int[] beside = {-1, 3, Integer.MIN_VALUE, Integer.MAX_VALUE};
    for (int law : beside) {
      Twins.unchanged("reign(0, " + law + ")", Twins::livedIn, x -> x.reign(0, law), Checks.OUTSIDE);
    }
  }

  /** "UNKNOWN", ahead of OUTSIDE too; THE SEED stays. */
  static void reignOfNobody() {
    int[] beside = {-1, 3, 4, 5, Integer.MIN_VALUE, Integer.MAX_VALUE};
    for (int person : beside) {
      Twins.unchanged("reign(" + person + ", 0)", Twins::livedIn, x -> x.reign(person, 0), Checks.UNKNOWN);
      Twins.unchanged("reign(" + person + ", 3)", Twins::livedIn, x -> x.reign(person, 3), Checks.UNKNOWN);
    }
    Twins.unchanged("reign(0, 0) of nobody", LightestRules::new, x -> x.reign(0, 0), Checks.UNKNOWN);
  }
}
