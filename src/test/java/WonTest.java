import java.util.Arrays;
import java.util.Random;

/** Promises 16 to 18: winning for sure with least harm, loaves that make the others too heavy. */
public final class WonTest {
  public static void main(String[] args) {
    sure();
    sureOfLikeOnes();
    sureWithWaterAndPockets();
    sureAtTheFloor();
    sureAt();
    sureRefused();
    sureAgainstAllPlans();
    feed();
    feedAgainstAllHandings();
    Checks.end("WonTest");
  }

  private static void sure() {
    LightestRules x = Checks.land("R000P22000P20000P30000");
    Checks.due("220 against 200: 4 are alike", x.sure(0, 1, 0), 16);
    Checks.due("in two days, 2 and 2", x.sure(0, 2, 0), 8);
    Checks.due("in three days, 1 and 1 and 2", x.sure(0, 3, 0), 6);
    Checks.due("in five days", x.sure(0, 5, 0), 4);
    Checks.due("against 5", x.sure(0, 1, 5), 81);
    Checks.due("against 6", x.sure(0, 1, 6), Checks.NONE);
    Checks.due("against 6 in two days, 16 in all", x.sure(0, 2, 6), 128);
    Checks.due("the lightest already", x.sure(1, 1, 0), 0);
    Checks.due("the lightest against 9", x.sure(1, 5, 9), Checks.NONE);
    Checks.due("too heavy", x.sure(2, 1, 0), Checks.NONE);
    Checks.due("21 in all, 10 and 11", x.sure(2, 2, 0), Checks.NONE);
    Checks.due("21 in all in three days", x.sure(2, 3, 0), 147);
    String before = Checks.look(x);
    x.sure(0, 5, 3);
    x.sureAt(0, 5, 3, 1);
    Checks.same("nothing changes", Checks.look(x), before);
    x.law(1);
    Checks.due("by law 0 whatever the law is", x.sure(1, 1, 0), 0);
  }

  private static void sureOfLikeOnes() {
    LightestRules x = Checks.land("R000P20000P20000");
    Checks.due("alike, the least person is lighter", x.sure(0, 1, 0), 0);
    Checks.due("alike, the other must toil", x.sure(1, 1, 0), 1);
    Checks.due("alike, against 3", x.sure(0, 1, 3), 9);
    Checks.due("alike, the other against 3", x.sure(1, 1, 3), 16);
    Checks.due("alike, 40 bring both to the floor", x.sure(0, 5, 9), 320);
    Checks.due("alike, the other against 9 each day", x.sure(1, 5, 9), Checks.NONE);
  }

  private static void sureWithWaterAndPockets() {
    LightestRules x = Checks.land("R000P20000P20000P90000");
    x.drink(0, 9);
    Checks.due("what it drank is gone by then", x.sure(0, 1, 0), 0);
    x.undo();
    x.drink(1, 9);
    Checks.due("what the other drank is gone too", x.sure(1, 1, 0), 1);
    LightestRules pockets = Checks.land("R000P20011P20000");
    Checks.due("18 ounces in its pockets", pockets.sure(0, 1, 0), 16);
    Checks.due("18 ounces in the other's", pockets.sure(1, 1, 3), 0);
    Checks.due("18 ounces less 20", pockets.sure(1, 1, 4), 1);
  }

  private static void sureAtTheFloor() {
    LightestRules x = Checks.land("R090P10000P20000P10001");
    Checks.due("110 against 10 ounces behind five days: 21 in all", x.sure(1, 5, 0), 89);
    for (int i = 0; i < 6; i++) {
      x.day();
    }
    Checks.due("on the floor", x.person(0, 0), 1);
    Checks.due("the other burns down", x.sure(1, 5, 0), Checks.NONE);
    Checks.due("the first can't be beaten", x.sure(0, 5, 9), 0);
    Checks.due("a stone is too much", x.sure(2, 5, 0), Checks.NONE);
    LightestRules low = Checks.land("R090P11000P10000");
    for (int i = 0; i < 5; i++) {
      low.day();
    }
    Checks.due("20 and 10 ounces, the day burns 18", low.sure(0, 1, 0), 1);
    Checks.due("the other has no way below the floor", low.sure(0, 1, 9), 1);
  }

  private static void sureAt() {
    LightestRules x = Checks.land("R000P25500P20000");
    int[] due = {2, 2, 2, 2, 3};
    for (int i = 0; i < 5; i++) {
      Checks.due("11 in five days, day " + i, x.sureAt(0, 5, 0, i), due[i]);
    }
    Checks.due("their harm", x.sure(0, 5, 0), 25);
    Checks.due("11 in two days, the first", x.sureAt(0, 2, 0, 0), 5);
    Checks.due("11 in two days, the second", x.sureAt(0, 2, 0, 1), 6);
    Checks.due("11 in one day", x.sureAt(0, 1, 0, 0), Checks.NONE);
    int[] three = {3, 4, 4};
    for (int i = 0; i < 3; i++) {
      Checks.due("11 in three days, day " + i, x.sureAt(0, 3, 0, i), three[i]);
    }
    Checks.due("a fourth day of three", x.sureAt(0, 3, 0, 3), Checks.NONE);
    Checks.due("a day ahead of them", x.sureAt(0, 3, 0, -1), Checks.NONE);
    for (int wild : Checks.WILD) {
      Checks.due("sureAt(0, 3, 0, " + wild + ")", x.sureAt(0, 3, 0, wild), Checks.NONE);
    }
    Checks.due("no toil", x.sureAt(1, 1, 0, 0), 0);
  }

  private static void sureRefused() {
    LightestRules x = Checks.land("R000P25500P20000");
    int[] badDays = {0, 6, -1, Integer.MIN_VALUE, Integer.MAX_VALUE};
    int[] badToil = {-1, 10, Integer.MIN_VALUE, Integer.MAX_VALUE};
    for (int d : badDays) {
      Checks.due("sure(0, " + d + ", 0)", x.sure(0, d, 0), Checks.OUTSIDE);
      Checks.due("sureAt(0, " + d + ", 0, 0)", x.sureAt(0, d, 0, 0), Checks.OUTSIDE);
      Checks.due("sure(2, " + d + ", 0)", x.sure(2, d, 0), Checks.UNKNOWN);
      Checks.due("sureAt(2, " + d + ", 0, 0)", x.sureAt(2, d, 0, 0), Checks.UNKNOWN);
    }
    for (int toil : badToil) {
      Checks.due("sure(0, 1, " + toil + ")", x.sure(0, 1, toil), Checks.OUTSIDE);
      Checks.due("sureAt(0, 1, " + toil + ", 0)", x.sureAt(0, 1, toil, 0), Checks.OUTSIDE);
    }
    for (int wild : Checks.WILD) {
      Checks.due("sure(" + wild + ", 1, 1)", x.sure(wild, 1, 1), Checks.UNKNOWN);
      Checks.due("sureAt(" + wild + ", 1, 1, 0)", x.sureAt(wild, 1, 1, 0), Checks.UNKNOWN);
    }
    LightestRules alone = Checks.land("R000P25500");
    Checks.due("alone", alone.sure(0, 1, 0), Checks.STATE);
    Checks.due("alone", alone.sureAt(0, 1, 0, 0), Checks.STATE);
    Checks.due("alone, no such day", alone.sureAt(0, 1, 0, 7), Checks.STATE);
    Checks.due("alone, d: OUTSIDE first", alone.sure(0, 0, 0), Checks.OUTSIDE);
    Checks.due("alone, x: OUTSIDE first", alone.sureAt(0, 1, 10, 0), Checks.OUTSIDE);
    Checks.due("alone, another one: UNKNOWN first", alone.sure(1, 0, 0), Checks.UNKNOWN);
  }

  private static void sureAgainstAllPlans() {
    Random random = new Random(5);
    for (int round = 0; round < 60; round++) {
      String text = closeLand(random);
      LightestRules x = Checks.land(text);
      for (int i = 0; i < random.nextInt(12); i++) {
        int person = random.nextInt(x.count(1));
        if (random.nextInt(3) == 0) {
          x.drink(person, 1 + random.nextInt(9));
        } else if (random.nextBoolean()) {
          x.toil(person, 1 + random.nextInt(9));
        } else {
          x.day();
        }
      }
      int burn = text.charAt(2) - '0';
      for (int ask = 0; ask < 6; ask++) {
        compareSure(x, burn, random.nextInt(x.count(1)), 1 + random.nextInt(5), random.nextInt(10));
      }
    }
  }

  private static String closeLand(Random random) {
    StringBuilder text = new StringBuilder("R0").append(random.nextInt(10)).append(random.nextInt(10));
    int base = random.nextBoolean() ? 100 : 300;
    int people = 2 + random.nextInt(4);
    for (int i = 0; i < people; i++) {
      text.append('P').append(base + random.nextInt(60));
      text.append(random.nextInt(4)).append(random.nextInt(4));
    }
    return text.toString();
  }

  private static void compareSure(LightestRules x, int burn, int person, int d, int against) {
    int people = x.count(1);
    int[] weights = new int[people];
    int[] drunk = new int[people];
    int[] pockets = new int[people];
    for (int i = 0; i < people; i++) {
      weights[i] = x.person(i, 0);
      drunk[i] = x.person(i, 3);
      pockets[i] = x.person(i, 4) - weights[i];
    }
    PlainSure plain = new PlainSure(weights, drunk, pockets, burn);
    plain.ask(person, d, against);
    String call = "(" + person + ", " + d + ", " + against + ") of " + Arrays.toString(weights);
    Checks.due("sure" + call, x.sure(person, d, against), plain.harm());
    for (int i = 0; i < d; i++) {
      Checks.due("sureAt " + i + " of " + call, x.sureAt(person, d, against, i), plain.toilOn(i));
    }
  }

  private static void feed() {
    LightestRules x = Checks.land("R000P22000P20000P23010P10000");
    Checks.due("20 ounces: 3 loaves, 120: 15", x.feed(0), 18);
    Checks.due("120 ounces and one told ahead", x.feed(3), 0);
    Checks.due("200 against 100 told behind: 13 loaves", x.feed(1), 13);
    Checks.due("238 ounces", x.feed(2), 3 + 5 + 18);
    LightestRules alike = Checks.land("R000P20000P20000P20000");
    Checks.due("the least of like ones", alike.feed(0), 0);
    Checks.due("one told ahead is lighter", alike.feed(1), 1);
    Checks.due("two told ahead", alike.feed(2), 2);
    LightestRules eight = Checks.land("R000P20000P20800");
    Checks.due("8 ounces, told ahead: one loaf is not enough", eight.feed(1), 2);
    LightestRules back = Checks.land("R000P20800P20000");
    Checks.due("8 ounces, told behind: one loaf is enough", back.feed(0), 1);
    Checks.due("alone", Checks.land("R000P20000").feed(0), 0);
    LightestRules full = Checks.land("R000P90099P10090");
    Checks.due("also more than 9", full.feed(0), (900 + 72 + 90 - 100 - 72 + 7) / 8);
    full.drink(1, 9);
    Checks.due("water weighs now", full.feed(0), (900 + 72 + 90 - 100 - 72 - 27 + 7) / 8);
    String before = Checks.look(full);
    full.law(2);
    full.feed(0);
    full.law(0);
    Checks.same("nothing changes", Checks.look(full), before);
    Checks.due("feed(2)", full.feed(2), Checks.UNKNOWN);
    for (int wild : Checks.WILD) {
      Checks.due("feed(" + wild + ")", full.feed(wild), Checks.UNKNOWN);
    }
  }

  /** Hands out loaves one by one, each to one that is still lighter. */
  private static void feedAgainstAllHandings() {
    Random random = new Random(8);
    for (int round = 0; round < 200; round++) {
      LightestRules x = Checks.land(closeLand(random));
      int people = x.count(1);
      for (int person = 0; person < people; person++) {
        int loaves = 0;
        for (int i = 0; i < people; i++) {
          int weight = x.person(i, 4);
          while (i < person && weight <= x.person(person, 4) || i > person && weight < x.person(person, 4)) {
            weight += 8;
            loaves++;
          }
        }
        Checks.due("feed(" + person + ") of " + Checks.look(x), x.feed(person), loaves);
      }
    }
  }
}
