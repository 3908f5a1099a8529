import java.util.Random;

/** Promises 19 to 28: the false weight, stones by searches, the told line of rulers. */
public final class FoundOutTest {
  public static void main(String[] args) {
    weigh();
    weighRefused();
    unweigh();
    mayBe();
    mayBeAgainstAll();
    search();
    searchRefused();
    rows();
    stones();
    rowsAgainstAll();
    ruled();
    line();
    lineWhenTheLandChanges();
    lineRefused();
    lineAgainstAll();
    Checks.end("FoundOutTest");
  }

  private static void weigh() {
    LightestRules x = new LightestRules();
    Checks.due("one against one", x.weigh(1, 2, 0), 1);
    Checks.due("four against four", x.weigh(15, 240, 1), 2);
    Checks.due("the highest bit", x.weigh(256, 1, 2), 3);
    Checks.due("count(4)", x.count(4), 3);
    for (int i = 4; i <= 10; i++) {
      Checks.due("weighing " + i, x.weigh(1, 2, 0), i);
    }
    Checks.due("an eleventh", x.weigh(1, 2, 0), Checks.FULL);
    Checks.due("an eleventh, OUTSIDE first", x.weigh(1, 1, 0), Checks.OUTSIDE);
    Checks.due("an eleventh, came: OUTSIDE first", x.weigh(1, 2, 3), Checks.OUTSIDE);
    Checks.due("count(4)", x.count(4), 10);
    Checks.due("no act", x.count(3), 0);
  }

  private static void weighRefused() {
    LightestRules x = new LightestRules();
    int[][] bad = {
      {0, 0}, {0, 1}, {1, 0}, {1, 1}, {3, 2}, {3, 4}, {7, 24}, {511, 1}, {512, 1}, {1, 512},
      {-1, 1}, {1, -1}, {-512, 1}, {1 << 9, 1 << 10}, {Integer.MIN_VALUE, 1}, {1, Integer.MIN_VALUE},
      {Integer.MAX_VALUE, Integer.MAX_VALUE}, {3, 6},
    };
    for (int[] sides : bad) {
      Checks.due("weigh(" + sides[0] + ", " + sides[1] + ", 0)", x.weigh(sides[0], sides[1], 0), Checks.OUTSIDE);
    }
    int[] badCame = {-1, 3, Integer.MIN_VALUE, Integer.MAX_VALUE};
    for (int came : badCame) {
      Checks.due("weigh(1, 2, " + came + ")", x.weigh(1, 2, came), Checks.OUTSIDE);
    }
    Checks.due("count(4)", x.count(4), 0);
    Checks.due("mayBe(true)", x.mayBe(true), 511);
  }

  private static void unweigh() {
    LightestRules x = new LightestRules();
    Checks.due("unweigh() of none", x.unweigh(), 0);
    x.weigh(1, 2, 1);
    x.weigh(1, 4, 1);
    Checks.due("unweigh()", x.unweigh(), 2);
    Checks.due("count(4)", x.count(4), 0);
    Checks.due("mayBe(true)", x.mayBe(true), 511);
    Checks.due("a first one again", x.weigh(8, 16, 2), 1);
    Checks.due("mayBe(true)", x.mayBe(true), 16);
  }

  private static void mayBe() {
    LightestRules x = new LightestRules();
    x.weigh(7, 56, 2);
    Checks.due("the right side sank: heavier", x.mayBe(true), 56);
    Checks.due("the right side sank: lighter", x.mayBe(false), 7);
    x.weigh(8, 16, 0);
    Checks.due("even: heavier", x.mayBe(true), 32);
    Checks.due("even: lighter", x.mayBe(false), 7);
    x.weigh(1, 2, 1);
    Checks.due("the left side sank: heavier", x.mayBe(true), 0);
    Checks.due("the left side sank: lighter", x.mayBe(false), 2);
    x.weigh(2, 4, 1);
    Checks.due("no one is left", x.mayBe(false), 0);
    Checks.due("no one is left", x.mayBe(true), 0);
  }

  private static void mayBeAgainstAll() {
    Random random = new Random(3);
    for (int round = 0; round < 300; round++) {
      LightestRules x = new LightestRules();
      int[][] told = new int[10][];
      int n = 0;
      for (int i = 0; i < 40 && n < 1 + round % 6; i++) {
        int left = random.nextInt(512);
        int right = random.nextInt(512) & ~left;
        int came = random.nextInt(3);
        if (x.weigh(left, right, came) > 0) {
          told[n] = new int[] {left, right, came};
          n++;
        }
      }
      Checks.due("round " + round + ", heavier", x.mayBe(true), plainMayBe(told, n, 11));
      Checks.due("round " + round + ", lighter", x.mayBe(false), plainMayBe(told, n, 9));
    }
  }

  /** Puts nine weights on the scales, of which one weighs as told, the others 10. */
  static int plainMayBe(int[][] told, int n, int falseOne) {
    int bits = 0;
    for (int suspect = 0; suspect < 9; suspect++) {
      boolean fits = true;
      for (int i = 0; i < n; i++) {
        int left = 0;
        int right = 0;
        for (int w = 0; w < 9; w++) {
          int weight = w == suspect ? falseOne : 10;
          left += (told[i][0] >> w & 1) * weight;
          right += (told[i][1] >> w & 1) * weight;
        }
        fits &= told[i][2] == (left == right ? 0 : left > right ? 1 : 2);
      }
      bits |= fits ? 1 << suspect : 0;
    }
    return bits;
  }

  private static void search() {
    LightestRules x = new LightestRules();
    Checks.due("search(1, 0)", x.search(1, 0), 1);
    Checks.due("search(31, 45)", x.search(31, 45), 2);
    for (int i = 3; i <= 8; i++) {
      Checks.due("search " + i, x.search(16, 5), i);
    }
    Checks.due("a ninth", x.search(16, 5), Checks.FULL);
    Checks.due("a ninth, people: OUTSIDE first", x.search(32, 5), Checks.OUTSIDE);
    Checks.due("a ninth, n: OUTSIDE first", x.search(1, 46), Checks.OUTSIDE);
    Checks.due("count(5)", x.count(5), 8);
    Checks.due("unsearch()", x.unsearch(), 8);
    Checks.due("count(5)", x.count(5), 0);
    Checks.due("unsearch() of none", x.unsearch(), 0);
    Checks.due("rows() of none", x.rows(), 100000);
    Checks.due("no act", x.count(3), 0);
  }

  private static void searchRefused() {
    LightestRules x = new LightestRules();
    int[] badPeople = {0, 32, -1, Integer.MIN_VALUE, Integer.MAX_VALUE};
    int[] badStones = {-1, 46, Integer.MIN_VALUE, Integer.MAX_VALUE};
    int[] badOnes = {-1, 5, Integer.MIN_VALUE, Integer.MAX_VALUE};
    for (int people : badPeople) {
      Checks.due("search(" + people + ", 1)", x.search(people, 1), Checks.OUTSIDE);
    }
    for (int n : badStones) {
      Checks.due("search(1, " + n + ")", x.search(1, n), Checks.OUTSIDE);
    }
    for (int one : badOnes) {
      Checks.due("stones(" + one + ", true)", x.stones(one, true), Checks.OUTSIDE);
      Checks.due("stones(" + one + ", false)", x.stones(one, false), Checks.OUTSIDE);
    }
    Checks.due("count(5)", x.count(5), 0);
    Checks.due("rows()", x.rows(), 100000);
  }

  private static void rows() {
    LightestRules x = new LightestRules();
    x.search(1, 9);
    Checks.due("one is known", x.rows(), 10000);
    x.search(3, 18);
    Checks.due("two are known", x.rows(), 1000);
    x.search(28, 14);
    Checks.due("three have 14", x.rows(), 75);
    Checks.due("asked again", x.rows(), 75);
    x.search(4, 10);
    Checks.due("one alone can not have 10", x.rows(), 0);
    x.unsearch();
    x.search(31, 0);
    Checks.due("none at all", x.rows(), 1);
    x.unsearch();
    x.search(31, 22);
    Checks.due("five have 22", x.rows(), 6000);
    x.search(31, 23);
    Checks.due("they do not have both", x.rows(), 0);
    LightestRules land = Checks.land("R000P10009P10009");
    land.search(3, 1);
    Checks.due("the land's stones do not matter", land.rows(), 2000);
  }

  private static void stones() {
    LightestRules x = new LightestRules();
    for (int one = 0; one < 5; one++) {
      Checks.due("least of none", x.stones(one, false), 0);
      Checks.due("most of none", x.stones(one, true), 9);
    }
    x.search(3, 12);
    Checks.due("least", x.stones(0, false), 3);
    Checks.due("most", x.stones(1, true), 9);
    x.search(1, 5);
    Checks.due("least, that is known", x.stones(1, false), 7);
    Checks.due("most, that is known", x.stones(1, true), 7);
    Checks.due("another's least", x.stones(2, false), 0);
    Checks.due("another's most", x.stones(4, true), 9);
    x.search(2, 6);
    for (int one = 0; one < 5; one++) {
      Checks.due("no row, least", x.stones(one, false), Checks.NONE);
      Checks.due("no row, most", x.stones(one, true), Checks.NONE);
    }
    Checks.due("no row, OUTSIDE first", x.stones(5, true), Checks.OUTSIDE);
    x.unsearch();
    Checks.due("behind unsearch()", x.stones(0, true), 9);
  }

  private static void rowsAgainstAll() {
    Random random = new Random(4);
    for (int round = 0; round < 150; round++) {
      LightestRules x = new LightestRules();
      int[] hidden = new int[5];
      for (int i = 0; i < 5; i++) {
        hidden[i] = random.nextInt(10);
      }
      int[] people = new int[8];
      int[] found = new int[8];
      int searches = random.nextInt(9);
      for (int s = 0; s < searches; s++) {
        people[s] = 1 + random.nextInt(31);
        found[s] = random.nextInt(25) == 0 ? random.nextInt(46) : sumOf(hidden, people[s]);
        x.search(people[s], found[s]);
        if (s == 1) {
          x.rows();
        }
      }
      compareRows(x, people, found, searches);
    }
  }

  static int sumOf(int[] stones, int people) {
    int sum = 0;
    for (int i = 0; i < 5; i++) {
      sum += (people >> i & 1) * stones[i];
    }
    return sum;
  }

  private static void compareRows(LightestRules x, int[] people, int[] found, int searches) {
    int rows = 0;
    int[] least = {99, 99, 99, 99, 99};
    int[] most = {-9, -9, -9, -9, -9};
    for (int row = 0; row < 100000; row++) {
      int[] stones = {row % 10, row / 10 % 10, row / 100 % 10, row / 1000 % 10, row / 10000};
      boolean fits = true;
      for (int s = 0; s < searches && fits; s++) {
        fits = sumOf(stones, people[s]) == found[s];
      }
      if (fits) {
        rows++;
        for (int i = 0; i < 5; i++) {
          least[i] = Math.min(least[i], stones[i]);
          most[i] = Math.max(most[i], stones[i]);
        }
      }
    }
    Checks.due("rows()", x.rows(), rows);
    for (int i = 0; i < 5; i++) {
      Checks.due("least of " + i, x.stones(i, false), rows == 0 ? Checks.NONE : least[i]);
      Checks.due("most of " + i, x.stones(i, true), rows == 0 ? Checks.NONE : most[i]);
    }
  }

  private static void ruled() {
    LightestRules x = Checks.land("R000P20000P30000");
    Checks.due("unrule() of none", x.unrule(), 0);
    Checks.due("ruled(1)", x.ruled(1), 1);
    Checks.due("ruled(2)", x.ruled(2), Checks.UNKNOWN);
    for (int wild : Checks.WILD) {
      Checks.due("ruled(" + wild + ")", x.ruled(wild), Checks.UNKNOWN);
    }
    Checks.due("ruled(0)", x.ruled(0), 2);
    Checks.due("ruled(0)", x.ruled(0), 3);
    Checks.due("ruled(0)", x.ruled(0), 4);
    Checks.due("a fifth month", x.ruled(0), Checks.FULL);
    Checks.due("a fifth month, UNKNOWN first", x.ruled(2), Checks.UNKNOWN);
    Checks.due("count(6)", x.count(6), 4);
    Checks.due("unrule()", x.unrule(), 4);
    Checks.due("count(6)", x.count(6), 0);
    Checks.due("a told ruler rules not", x.person(0, 6), 0);
    Checks.due("no act", x.count(3), 0);
    LightestRules five = Checks.land("R000P20000P20000P20000P20000P20000");
    Checks.due("told of five people too", five.ruled(4), 1);
  }

  private static void line() {
    LightestRules x = Checks.land("R000P20000P20000");
    Checks.due("an empty line", x.line(), 1);
    x.ruled(0);
    Checks.due("the first of like ones eats no more", x.line(), 10);
    x.unrule();
    x.ruled(1);
    Checks.due("the second one eats less", x.line(), 6);
    LightestRules apart = Checks.land("R000P20000P22400");
    apart.ruled(1);
    Checks.due("24 ounces apart, 3 meals are not enough", apart.line(), 0);
    apart.ruled(0);
    Checks.due("nor does a later month mend it", apart.line(), 0);
    apart.unrule();
    apart.ruled(0);
    apart.ruled(1);
    Checks.due("in two months", apart.line(), plainLine(new int[] {200, 224}, new int[] {0, 1}, 0));
    LightestRules back = Checks.land("R000P22400P20000");
    back.ruled(0);
    Checks.due("24 ounces, told ahead: like ones", back.line(), 1);
    LightestRules one = Checks.land("R000P10000");
    for (int i = 1; i <= 4; i++) {
      one.ruled(0);
      Checks.due("alone, " + i + " months", one.line(), 1L << (2 * i));
    }
    LightestRules far = Checks.land("R000P10000P90000P90000");
    for (int i = 1; i <= 4; i++) {
      far.ruled(0);
      Checks.due("far lighter, " + i + " months", far.line(), 1L << (6 * i));
    }
    far.law(2);
    Checks.due("by law 0, whatever the law is", far.line(), 1L << 24);
  }

  private static void lineWhenTheLandChanges() {
    LightestRules x = Checks.land("R050P20011P20000P20000");
    x.ruled(2);
    x.ruled(0);
    Checks.due("as they are", x.line(), plainLine(new int[] {218, 200, 200}, new int[] {2, 0}, 0));
    x.drink(1, 2);
    x.hand(0, 2, true);
    Checks.due("as they are now", x.line(), plainLine(new int[] {208, 206, 210}, new int[] {2, 0}, 0));
    String before = Checks.look(x);
    x.line();
    Checks.same("nothing changes", Checks.look(x), before);
    Checks.rewrite(x, "R000P20000P20000");
    x.land();
    Checks.due("a ruler of it is not there", x.line(), 0);
    Checks.due("but the line stays", x.count(6), 2);
    Checks.rewrite(x, "R000P20000P20000P20000");
    x.land();
    Checks.due("a ruler of it is there again", x.line(), plainLine(new int[] {200, 200, 200}, new int[] {2, 0}, 0));
  }

  private static void lineRefused() {
    LightestRules x = Checks.land("R000P20000P20000P20000P20000");
    Checks.due("four people", x.line(), Checks.STATE);
    x.ruled(1);
    Checks.due("four people", x.line(), Checks.STATE);
    Checks.rewrite(x, "R000");
    x.land();
    Checks.due("nobody", x.line(), Checks.STATE);
    Checks.due("nobody rules", x.ruled(0), Checks.UNKNOWN);
    Checks.rewrite(x, "R000P20000P30000P40000");
    x.land();
    Checks.due("three people", x.line(), 0);
  }

  private static void lineAgainstAll() {
    Random random = new Random(6);
    for (int round = 0; round < 150; round++) {
      int people = 1 + random.nextInt(3);
      StringBuilder text = new StringBuilder("R000");
      for (int i = 0; i < people; i++) {
        text.append('P').append(200 + random.nextInt(30)).append(random.nextInt(3)).append(random.nextInt(2));
      }
      LightestRules x = Checks.land(text.toString());
      int[] line = new int[random.nextInt(5)];
      for (int i = 0; i < line.length; i++) {
        line[i] = random.nextInt(people);
        x.ruled(line[i]);
      }
      int[] weights = new int[people];
      for (int i = 0; i < people; i++) {
        weights[i] = x.person(i, 4);
      }
      Checks.due("line() of " + text, x.line(), plainLine(weights, line, 0));
    }
  }

  /** Lets all eat in every way, month by month. */
  static long plainLine(int[] weights, int[] line, int month) {
    if (month == line.length) {
      return 1;
    }
    long rows = 0;
    for (int meals = 0; meals < 1 << (2 * weights.length); meals++) {
      int[] then = weights.clone();
      int crowned = 0;
      for (int i = 0; i < then.length; i++) {
        then[i] += 8 * (meals >> (2 * i) & 3);
        crowned = then[i] < then[crowned] ? i : crowned;
      }
      if (crowned == line[month]) {
        rows += plainLine(then, line, month + 1);
      }
    }
    return rows;
  }
}
