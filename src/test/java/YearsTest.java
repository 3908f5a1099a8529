import java.math.BigInteger;
import java.util.Random;

/** Promises 29 and 30: the seed, and who rules how many months of a year by it. */
public final class YearsTest {
  public static void main(String[] args) {
    seed();
    reign();
    reignRefused();
    reignAtTheFloor();
    reignAgainstPlainYears();
    Checks.end("YearsTest");
  }

  private static void seed() {
    LightestRules x = new LightestRules();
    Checks.due("seed(5)", x.seed(5), 0);
    Checks.due("seed(MIN)", x.seed(Long.MIN_VALUE), 5);
    Checks.due("seed(-1)", x.seed(-1), Long.MIN_VALUE);
    Checks.due("seed(MAX)", x.seed(Long.MAX_VALUE), -1);
    Checks.due("seed(0)", x.seed(0), Long.MAX_VALUE);
    Checks.due("seed(0)", x.seed(0), 0);
    Checks.due("no act", x.count(3), 0);
  }

  private static void reign() {
    LightestRules x = Checks.land("R000P10000P90000");
    Checks.due("the far lighter one, law 0", x.reign(0, 0), 12);
    Checks.due("the other one, law 0", x.reign(1, 0), 0);
    Checks.due("the far lighter one, law 1", x.reign(0, 1), 0);
    Checks.due("the other one, law 1", x.reign(1, 1), 12);
    Checks.due("law 2, nobody is ill", x.reign(0, 2), 12);
    LightestRules ill = Checks.land("R009P10000P90000");
    Checks.due("law 2, the lighter one is ill", ill.reign(0, 2), 0);
    Checks.due("law 2, the other one is not", ill.reign(1, 2), 12);
    Checks.due("law 1 of one alone", Checks.land("R000P10000").reign(0, 1), 0);
    x.law(1);
    String before = Checks.look(x);
    x.seed(3);
    Checks.due("by the law that is told", x.reign(0, 0), 12);
    Checks.same("nothing changes but the seed", Checks.look(x), before);
    Checks.due("the seed of 24 steps from 3", x.seed(3), stepped(3, 24));
    x.reign(0, 1);
    x.reign(1, 2);
    Checks.due("a year goes on from the last one", x.seed(0), stepped(3, 48));
  }

  private static void reignRefused() {
    LightestRules x = Checks.land("R000P10000P90000");
    x.seed(44);
    int[] badLaws = {-1, 3, Integer.MIN_VALUE, Integer.MAX_VALUE};
    for (int law : badLaws) {
      Checks.due("reign(0, " + law + ")", x.reign(0, law), Checks.OUTSIDE);
      Checks.due("reign(2, " + law + "): UNKNOWN first", x.reign(2, law), Checks.UNKNOWN);
    }
    for (int wild : Checks.WILD) {
      Checks.due("reign(" + wild + ", 0)", x.reign(wild, 0), Checks.UNKNOWN);
    }
    Checks.due("what is refused leaves the seed", x.seed(0), 44);
    LightestRules none = new LightestRules();
    none.seed(44);
    Checks.due("nobody", none.reign(0, 0), Checks.UNKNOWN);
    Checks.due("nobody leaves the seed", none.seed(0), 44);
  }

  /** One ounce is left at least: light people that go down and up again tell the floor. */
  private static void reignAtTheFloor() {
    for (int seed = 0; seed < 200; seed++) {
      LightestRules x = Checks.land("R000P10000P10000P10000");
      for (int i = 0; i < 7; i++) {
        x.toil(i % 3, 9);
        x.toil(i % 3, 5);
      }
      for (int law = 0; law < 3; law++) {
        compareYear(x, 0, seed, law);
      }
    }
  }

  private static void reignAgainstPlainYears() {
    Random random = new Random(9);
    for (int round = 0; round < 150; round++) {
      int ill = random.nextInt(10);
      StringBuilder text = new StringBuilder("R09").append(ill);
      int people = 1 + random.nextInt(5);
      for (int i = 0; i < people; i++) {
        text.append('P').append(Math.min(999, Math.max(100, 40 * ill + random.nextInt(60) - 30)));
        text.append(random.nextInt(4)).append(random.nextInt(3));
      }
      LightestRules x = Checks.land(text.toString());
      x.drink(random.nextInt(people), 3);
      for (int law = 0; law < 3; law++) {
        compareYear(x, ill, random.nextLong(), law);
      }
    }
  }

  private static void compareYear(LightestRules x, int ill, long seed, int law) {
    int people = x.count(1);
    int[] weights = new int[people];
    int[] pockets = new int[people];
    for (int i = 0; i < people; i++) {
      weights[i] = x.person(i, 0);
      pockets[i] = x.person(i, 4) - weights[i];
    }
    PlainYear plain = new PlainYear(weights, pockets, ill);
    plain.live(seed, law);
    for (int person = 0; person < people; person++) {
      x.seed(seed);
      Checks.due("reign(" + person + ", " + law + ") by " + seed, x.reign(person, law), plain.months(person));
      Checks.due("the seed behind it", x.seed(0), plain.seed());
    }
  }

  private static long stepped(long seed, int steps) {
    BigInteger x = BigInteger.valueOf(seed);
    for (int i = 0; i < steps; i++) {
      x = PlainYear.step(x);
    }
    return x.longValue();
  }
}
