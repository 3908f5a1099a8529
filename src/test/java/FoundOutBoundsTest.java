/** Promises 19 to 28 at their bounds, each case by itself. */
public final class FoundOutBoundsTest {
  private static final int[] FAR = {Integer.MIN_VALUE, Integer.MIN_VALUE + 1, -512, -2, 1 << 20, Integer.MAX_VALUE};
  private static final int ALL_ROWS = 100000;

  public static void main(String[] args) throws IllegalAccessException {
    Cases.runAll(FoundOutBoundsTest.class);
  }

  // ---- promise 19: weigh

  /** "left, right (0 to 511, a bit in both, not as many in both, none)": all pairs from -1 to 512. */
  static void weighEachPair() {
    for (int left = -1; left <= 512; left++) {
      LightestRules x = new LightestRules();
      for (int right = -1; right <= 512; right++) {
        if (right % 128 == 0) {
          x = new LightestRules();
        }
        boolean fine = mayBeWeighed(left, right);
        Checks.due("weigh(" + left + ", " + right + ", 0)", x.weigh(left, right, 0), fine ? 1 : Checks.OUTSIDE);
        Checks.due("unweigh()", x.unweigh(), fine ? 1 : 0);
      }
    }
  }

  private static boolean mayBeWeighed(int left, int right) {
    if (left < 0 || left > 511 || right < 0 || right > 511) {
      return false;
    }
    int leftOnes = 0;
    int rightOnes = 0;
    for (int weight = 0; weight < 9; weight++) {
      int onLeft = left >> weight & 1;
      int onRight = right >> weight & 1;
      if (onLeft + onRight == 2) {
        return false;
      }
      leftOnes += onLeft;
      rightOnes += onRight;
    }
    return leftOnes > 0 && leftOnes == rightOnes;
  }

  /** "0 to 511": 512 and -1 are refused on each side, and numbers far beside. */
  static void weighBesideNineBits() {
    int[] beside = {-1, 512, 513, 1 << 30, Integer.MIN_VALUE, Integer.MAX_VALUE};
    for (int side : beside) {
      Twins.unchanged("weigh(" + side + ", 1, 0)", Twins::livedIn, x -> x.weigh(side, 1, 0), Checks.OUTSIDE);
      Twins.unchanged("weigh(1, " + side + ", 0)", Twins::livedIn, x -> x.weigh(1, side, 0), Checks.OUTSIDE);
    }
    Twins.unchanged("weigh(512, 1024, 0)", Twins::livedIn, x -> x.weigh(512, 1024, 0), Checks.OUTSIDE);
    Checks.due("the ninth weight", new LightestRules().weigh(256, 128, 0), 1);
    Checks.due("the ninth weight on the right", new LightestRules().weigh(128, 256, 0), 1);
  }

  /** "a bit in both". */
  static void weighOneOnBothSides() {
    for (int weight = 0; weight < 9; weight++) {
      int bit = 1 << weight;
      Twins.unchanged("weigh(" + bit + ", " + bit + ", 0)", Twins::livedIn, x -> x.weigh(bit, bit, 0), Checks.OUTSIDE);
    }
    Twins.unchanged("weigh(3, 6, 1)", Twins::livedIn, x -> x.weigh(3, 6, 1), Checks.OUTSIDE);
    Twins.unchanged("weigh(31, 496, 1)", Twins::livedIn, x -> x.weigh(31, 496, 1), Checks.OUTSIDE);
  }

  /** "not as many in both". */
  static void weighNotAsMany() {
    Twins.unchanged("weigh(1, 6, 1)", Twins::livedIn, x -> x.weigh(1, 6, 1), Checks.OUTSIDE);
    Twins.unchanged("weigh(6, 1, 1)", Twins::livedIn, x -> x.weigh(6, 1, 1), Checks.OUTSIDE);
    Twins.unchanged("weigh(15, 496, 1)", Twins::livedIn, x -> x.weigh(15, 496, 1), Checks.OUTSIDE);
    Checks.due("four against four", new LightestRules().weigh(15, 240, 1), 1);
  }

  /** "none": on one side, on both. */
  static void weighNone() {
    Twins.unchanged("weigh(0, 0, 0)", Twins::livedIn, x -> x.weigh(0, 0, 0), Checks.OUTSIDE);
    Twins.unchanged("weigh(0, 1, 0)", Twins::livedIn, x -> x.weigh(0, 1, 0), Checks.OUTSIDE);
    Twins.unchanged("weigh(1, 0, 0)", Twins::livedIn, x -> x.weigh(1, 0, 0), Checks.OUTSIDE);
  }

  /** "came (0 to 2)". */
  static void weighBesideWhatCanCome() {
    int[] beside = {-1, 3, Integer.MIN_VALUE, Integer.MAX_VALUE};
    for (int came : beside) {
      Twins.unchanged("weigh(1, 2, " + came + ")", Twins::livedIn, x -> x.weigh(1, 2, came), Checks.OUTSIDE);
    }
    for (int came = 0; came <= 2; came++) {
      Checks.due("weigh(1, 2, " + came + ")", new LightestRules().weigh(1, 2, came), 1);
    }
  }

  /** "FULL: 10": the tenth comes, the eleventh does not. */
  static void weighTenTimes() {
    LightestRules x = new LightestRules();
    for (int i = 1; i <= 10; i++) {
      Checks.due("weighing " + i, x.weigh(1, 2, 0), i);
    }
    Twins.unchanged("an eleventh", () -> tenTimes(), y -> y.weigh(4, 8, 1), Checks.FULL);
    Checks.due("the tenth counts", tenTimes().mayBe(true), 4);
  }

  private static LightestRules tenTimes() {
    LightestRules x = new LightestRules();
    for (int i = 1; i <= 9; i++) {
      x.weigh(1, 2, 0);
    }
    x.weigh(4, 8, 1);
    return x;
  }

  /** OUTSIDE stands ahead of FULL. */
  static void weighTellsOutsideAheadOfFull() {
    Twins.unchanged("weigh(0, 0, 0)", () -> tenTimes(), x -> x.weigh(0, 0, 0), Checks.OUTSIDE);
    Twins.unchanged("weigh(512, 1, 0)", () -> tenTimes(), x -> x.weigh(512, 1, 0), Checks.OUTSIDE);
    Twins.unchanged("weigh(1, 2, 3)", () -> tenTimes(), x -> x.weigh(1, 2, 3), Checks.OUTSIDE);
  }

  // ---- promise 20: unweigh

  /** "how many there were": none, one, ten; then ten come again. */
  static void unweighOfEachNumber() {
    Twins.unchanged("unweigh() of none", LightestRules::new, x -> x.unweigh(), 0);
    for (int n = 1; n <= 10; n++) {
      LightestRules x = new LightestRules();
      for (int i = 0; i < n; i++) {
        x.weigh(1, 2, 1);
      }
      Checks.due("unweigh()", x.unweigh(), n);
      Checks.due("count(4)", x.count(4), 0);
      Checks.due("mayBe(true)", x.mayBe(true), 511);
      Checks.due("unweigh()", x.unweigh(), 0);
      Checks.due("weigh", x.weigh(4, 8, 2), 1);
      Checks.due("mayBe(true)", x.mayBe(true), 8);
    }
    LightestRules full = tenTimes();
    full.unweigh();
    for (int i = 1; i <= 10; i++) {
      Checks.due("weighing " + i, full.weigh(1, 2, 0), i);
    }
    Checks.due("an eleventh", full.weigh(1, 2, 0), Checks.FULL);
  }

  /** SEARCHES and THE LINE stay. */
  static void unweighLeavesTheRest() {
    LightestRules x = Twins.livedIn();
    x.unweigh();
    Checks.due("searches", x.count(5), 2);
    Checks.due("the line", x.count(6), 2);
    Checks.due("acts", x.count(3), Twins.livedIn().count(3));
  }

  // ---- promise 21: mayBe

  /** Each single WEIGHING there is, with each that can come. */
  static void mayBeByEachWeighing() {
    LightestRules x = new LightestRules();
    int calls = 0;
    for (int left = 1; left < 512; left++) {
      for (int right = 1; right < 512; right++) {
        for (int came = 0; came < 3 && mayBeWeighed(left, right); came++) {
          if (calls > 500) {
            x = new LightestRules();
            calls = 0;
          }
          int[][] told = {{left, right, came}};
          String call = left + ", " + right + ", " + came;
          x.weigh(left, right, came);
          Checks.due("heavier by " + call, x.mayBe(true), FoundOutTest.plainMayBe(told, 1, 11));
          Checks.due("lighter by " + call, x.mayBe(false), FoundOutTest.plainMayBe(told, 1, 9));
          x.unweigh();
          calls += 4;
        }
      }
    }
  }

  /** By no WEIGHING each of the nine can be it. */
  static void mayBeByNone() {
    Twins.unchanged("mayBe(true)", LightestRules::new, x -> x.mayBe(true), 511);
    Twins.unchanged("mayBe(false)", LightestRules::new, x -> x.mayBe(false), 511);
  }

  /** By some that do not go together none can be it. */
  static void mayBeNoneOfThem() {
    LightestRules x = new LightestRules();
    x.weigh(1, 2, 1);
    x.weigh(1, 2, 2);
    Checks.due("mayBe(true)", x.mayBe(true), 0);
    Checks.due("mayBe(false)", x.mayBe(false), 0);
    LightestRules even = new LightestRules();
    even.weigh(15, 240, 0);
    Checks.due("the ninth one alone", even.mayBe(true), 256);
    even.weigh(1, 256, 0);
    Checks.due("none is left", even.mayBe(true), 0);
    Checks.due("none is left", even.mayBe(false), 0);
  }

  /** One that is heavier and one that is lighter are told apart. */
  static void mayBeOnOneSideOnly() {
    LightestRules x = new LightestRules();
    x.weigh(1, 2, 1);
    x.weigh(1, 4, 1);
    Checks.due("the heavier one", x.mayBe(true), 1);
    Checks.due("no lighter one", x.mayBe(false), 0);
  }

  // ---- promise 22: search

  /** "people (1 to 31), n (0 to 45)": all pairs about these bounds. */
  static void searchEachPair() {
    for (int people = -2; people <= 34; people++) {
      for (int n = -2; n <= 48; n++) {
        LightestRules x = new LightestRules();
        boolean fine = people >= 1 && people <= 31 && n >= 0 && n <= 45;
        Checks.due("search(" + people + ", " + n + ")", x.search(people, n), fine ? 1 : Checks.OUTSIDE);
        Checks.due("count(5)", x.count(5), fine ? 1 : 0);
      }
    }
  }

  /** What is beside them changes nothing. */
  static void searchBesideThem() {
    int[] noPeople = {0, 32, -1, Integer.MIN_VALUE, Integer.MAX_VALUE};
    for (int people : noPeople) {
      Twins.unchanged("search(" + people + ", 1)", Twins::livedIn, x -> x.search(people, 1), Checks.OUTSIDE);
    }
    int[] noStones = {-1, 46, Integer.MIN_VALUE, Integer.MAX_VALUE};
    for (int n : noStones) {
      Twins.unchanged("search(1, " + n + ")", Twins::livedIn, x -> x.search(1, n), Checks.OUTSIDE);
      Twins.unchanged("search(31, " + n + ")", Twins::livedIn, x -> x.search(31, n), Checks.OUTSIDE);
    }
    for (int far : FAR) {
      Checks.due("search(" + far + ", " + far + ")", new LightestRules().search(far, far), Checks.OUTSIDE);
    }
  }

  /** "FULL: 8": the eighth comes, the ninth does not. */
  static void searchEightTimes() {
    LightestRules x = new LightestRules();
    for (int i = 1; i <= 8; i++) {
      Checks.due("search " + i, x.search(1, 4), i);
    }
    Twins.unchanged("a ninth", () -> eightTimes(), y -> y.search(2, 3), Checks.FULL);
    Checks.due("the eighth counts", eightTimes().rows(), 1000);
  }

  private static LightestRules eightTimes() {
    LightestRules x = new LightestRules();
    for (int i = 1; i <= 7; i++) {
      x.search(1, 4);
    }
    x.search(16, 9);
    return x;
  }

  /** OUTSIDE stands ahead of FULL. */
  static void searchTellsOutsideAheadOfFull() {
    Twins.unchanged("search(0, 1)", () -> eightTimes(), x -> x.search(0, 1), Checks.OUTSIDE);
    Twins.unchanged("search(32, 1)", () -> eightTimes(), x -> x.search(32, 1), Checks.OUTSIDE);
    Twins.unchanged("search(1, 46)", () -> eightTimes(), x -> x.search(1, 46), Checks.OUTSIDE);
    Twins.unchanged("search(1, -1)", () -> eightTimes(), x -> x.search(1, -1), Checks.OUTSIDE);
  }

  /** "of five PEOPLE, whether they are there or not". */
  static void searchOfPeopleThatAreNotThere() {
    LightestRules nobody = new LightestRules();
    Checks.due("search(16, 9)", nobody.search(16, 9), 1);
    Checks.due("rows()", nobody.rows(), 10000);
    LightestRules x = Checks.land("R000P20009");
    Checks.due("search(30, 36)", x.search(30, 36), 1);
    Checks.due("rows()", x.rows(), 10);
    Checks.due("its own stones are no matter", x.stones(0, false), 0);
  }

  // ---- promise 23: unsearch

  /** "how many there were": none, one, .. eight; then eight come again. */
  static void unsearchOfEachNumber() {
    Twins.unchanged("unsearch() of none", LightestRules::new, x -> x.unsearch(), 0);
    for (int n = 1; n <= 8; n++) {
      LightestRules x = new LightestRules();
      for (int i = 0; i < n; i++) {
        x.search(1, 4);
      }
      Checks.due("rows()", x.rows(), 10000);
      Checks.due("unsearch()", x.unsearch(), n);
      Checks.due("count(5)", x.count(5), 0);
      Checks.due("rows()", x.rows(), ALL_ROWS);
      Checks.due("unsearch()", x.unsearch(), 0);
    }
    LightestRules full = eightTimes();
    full.unsearch();
    for (int i = 1; i <= 8; i++) {
      Checks.due("search " + i, full.search(2, 3), i);
    }
    Checks.due("a ninth", full.search(2, 3), Checks.FULL);
    Checks.due("rows()", full.rows(), 10000);
  }

  /** WEIGHINGS and THE LINE stay. */
  static void unsearchLeavesTheRest() {
    LightestRules x = Twins.livedIn();
    x.unsearch();
    Checks.due("weighings", x.count(4), 2);
    Checks.due("the line", x.count(6), 2);
    Checks.due("acts", x.count(3), Twins.livedIn().count(3));
  }

  // ---- promise 24: rows

  /** By no SEARCH each row fits. */
  static void rowsOfNone() {
    Twins.unchanged("rows()", LightestRules::new, x -> x.rows(), ALL_ROWS);
  }

  /** Each single SEARCH: as many rows as there are ways to share n, times ten for each not searched. */
  static void rowsByEachSearch() {
    for (int people = 1; people <= 31; people++) {
      int searched = Integer.bitCount(people);
      for (int n = 0; n <= 45; n++) {
        LightestRules x = new LightestRules();
        x.search(people, n);
        int due = ways(searched, n);
        for (int i = searched; i < 5; i++) {
          due *= 10;
        }
        Checks.due("rows() by " + people + ", " + n, x.rows(), due);
        Checks.due("rows() asked again", x.rows(), due);
      }
    }
  }

  private static int ways(int people, int n) {
    if (people == 0) {
      return n == 0 ? 1 : 0;
    }
    int sum = 0;
    for (int stones = 0; stones <= 9 && stones <= n; stones++) {
      sum += ways(people - 1, n - stones);
    }
    return sum;
  }

  /** No STONE at all, and 9 each: just one row. */
  static void rowsOfLeastAndMost() {
    LightestRules none = new LightestRules();
    none.search(31, 0);
    Checks.due("none at all", none.rows(), 1);
    LightestRules all = new LightestRules();
    all.search(31, 45);
    Checks.due("9 each", all.rows(), 1);
    LightestRules one = new LightestRules();
    one.search(31, 1);
    Checks.due("one of all", one.rows(), 5);
    LightestRules but = new LightestRules();
    but.search(31, 44);
    Checks.due("all but one", but.rows(), 5);
  }

  /** SEARCHES that do not go together: no row. */
  static void rowsOfNoRow() {
    LightestRules ten = new LightestRules();
    ten.search(8, 10);
    Checks.due("10 of one", ten.rows(), 0);
    LightestRules two = new LightestRules();
    two.search(3, 19);
    Checks.due("19 of two", two.rows(), 0);
    LightestRules both = new LightestRules();
    both.search(3, 7);
    both.search(3, 8);
    Checks.due("7 and 8", both.rows(), 0);
    LightestRules part = new LightestRules();
    part.search(1, 9);
    part.search(3, 8);
    Checks.due("a part has more than the whole", part.rows(), 0);
  }

  /** Eight SEARCHES that leave one row. */
  static void rowsByEightSearches() {
    LightestRules x = new LightestRules();
    int[] people = {1, 2, 4, 8, 16, 31, 3, 28};
    int[] stones = {0, 9, 5, 1, 8};
    for (int bits : people) {
      x.search(bits, FoundOutTest.sumOf(stones, bits));
    }
    Checks.due("rows()", x.rows(), 1);
    for (int one = 0; one < 5; one++) {
      Checks.due("least", x.stones(one, false), stones[one]);
      Checks.due("most", x.stones(one, true), stones[one]);
    }
  }

  /** Asked between SEARCHES it answers by all that came so far. */
  static void rowsAskedBetween() {
    LightestRules x = new LightestRules();
    int due = ALL_ROWS;
    for (int one = 0; one < 5; one++) {
      Checks.due("rows()", x.rows(), due);
      x.search(1 << one, 9);
      due /= 10;
    }
    Checks.due("rows()", x.rows(), 1);
    x.search(31, 44);
    Checks.due("rows()", x.rows(), 0);
    x.unsearch();
    Checks.due("rows()", x.rows(), ALL_ROWS);
  }

  // ---- promise 25: stones

  /** "one (0 to 4)": beside them OUTSIDE, with rows and with none. */
  static void stonesBesideFivePeople() {
    int[] beside = {-1, 5, Integer.MIN_VALUE, Integer.MAX_VALUE};
    for (int one : beside) {
      Twins.unchanged("stones(" + one + ", true)", Twins::livedIn, x -> x.stones(one, true), Checks.OUTSIDE);
      Twins.unchanged("stones(" + one + ", false)", Twins::livedIn, x -> x.stones(one, false), Checks.OUTSIDE);
      LightestRules none = new LightestRules();
      none.search(1, 10);
      Checks.due("where there is no row", none.stones(one, true), Checks.OUTSIDE);
    }
  }

  /** By no SEARCH each has 0 to 9. */
  static void stonesByNone() {
    for (int one = 0; one <= 4; one++) {
      Checks.due("least", new LightestRules().stones(one, false), 0);
      Checks.due("most", new LightestRules().stones(one, true), 9);
    }
  }

  /** Each single SEARCH: the others have at most 9 each, at least none. */
  static void stonesByEachSearch() {
    for (int people = 1; people <= 31; people++) {
      int searched = Integer.bitCount(people);
      for (int n = 0; n <= 45; n++) {
        LightestRules x = new LightestRules();
        x.search(people, n);
        for (int one = 0; one < 5; one++) {
          boolean in = (people >> one & 1) == 1;
          int least = in ? Math.max(0, n - 9 * (searched - 1)) : 0;
          int most = in ? Math.min(9, n) : 9;
          boolean any = n <= 9 * searched;
          String call = one + " by " + people + ", " + n;
          Checks.due("least of " + call, x.stones(one, false), any ? least : Checks.NONE);
          Checks.due("most of " + call, x.stones(one, true), any ? most : Checks.NONE);
        }
      }
    }
  }

  /** "NONE: there is no row": of those searched and of the others; then there are rows again. */
  static void stonesOfNoRow() {
    LightestRules x = new LightestRules();
    x.search(2, 3);
    x.search(2, 4);
    for (int one = 0; one <= 4; one++) {
      Checks.due("least", x.stones(one, false), Checks.NONE);
      Checks.due("most", x.stones(one, true), Checks.NONE);
    }
    x.unsearch();
    x.search(2, 4);
    Checks.due("least", x.stones(1, false), 4);
    Checks.due("most", x.stones(1, true), 4);
  }

  /** A start of a row that no row goes on from proves nothing: three by pairs leave one row, or none. */
  static void stonesByThreePairs() {
    LightestRules x = new LightestRules();
    x.search(3, 9);
    x.search(6, 9);
    x.search(5, 8);
    Checks.due("rows()", x.rows(), 100);
    int[] due = {4, 5, 4};
    for (int one = 0; one < 3; one++) {
      Checks.due("least of " + one, x.stones(one, false), due[one]);
      Checks.due("most of " + one, x.stones(one, true), due[one]);
    }
    Checks.due("one that is not searched", x.stones(4, true), 9);
    LightestRules odd = new LightestRules();
    odd.search(3, 9);
    odd.search(6, 9);
    odd.search(5, 9);
    Checks.due("rows()", odd.rows(), 0);
    Checks.due("least", odd.stones(0, false), Checks.NONE);
    Checks.due("most of one that is not searched", odd.stones(4, true), Checks.NONE);
  }

  /** Asked between SEARCHES: narrower with each, as wide as at first when there are none. */
  static void stonesAskedBetween() {
    LightestRules x = new LightestRules();
    Checks.due("most", x.stones(0, true), 9);
    x.search(3, 5);
    Checks.due("most", x.stones(0, true), 5);
    Checks.due("least", x.stones(0, false), 0);
    x.search(2, 3);
    Checks.due("most", x.stones(0, true), 2);
    Checks.due("least", x.stones(0, false), 2);
    x.search(1, 3);
    Checks.due("most", x.stones(0, true), Checks.NONE);
    x.unsearch();
    Checks.due("most", x.stones(0, true), 9);
    Checks.due("least", x.stones(0, false), 0);
  }

  // ---- promise 26: ruled

  /** "FULL: 4": the fourth comes, the fifth does not. */
  static void ruledFourTimes() {
    LightestRules x = Checks.land("R000P20000P20000");
    for (int i = 1; i <= 4; i++) {
      Checks.due("month " + i, x.ruled(0), i);
    }
    Twins.unchanged("a fifth", () -> fourMonths(), y -> y.ruled(0), Checks.FULL);
  }

  private static LightestRules fourMonths() {
    LightestRules x = Twins.livedIn();
    x.ruled(2);
    x.ruled(0);
    return x;
  }

  /** "told of PEOPLE that are there", "UNKNOWN". */
  static void ruledOfNobody() {
    int[] beside = {-1, 3, 4, 5, Integer.MIN_VALUE, Integer.MAX_VALUE};
    for (int person : beside) {
      Twins.unchanged("ruled(" + person + ")", Twins::livedIn, x -> x.ruled(person), Checks.UNKNOWN);
      Twins.unchanged("ruled(" + person + ") of a full line", () -> fourMonths(), x -> x.ruled(person), Checks.UNKNOWN);
    }
    Twins.unchanged("ruled(0) of nobody", LightestRules::new, x -> x.ruled(0), Checks.UNKNOWN);
  }

  /** Each that is there can be told, the last of five too. */
  static void ruledOfEach() {
    for (int people = 1; people <= 5; people++) {
      for (int person = 0; person <= 5; person++) {
        LightestRules x = Checks.land("R000" + "P20000".repeat(people));
        Checks.due("ruled(" + person + ") of " + people, x.ruled(person), person < people ? 1 : Checks.UNKNOWN);
      }
    }
  }

  // ---- promise 27: unrule

  /** "how many months it had": none, .. four; then four come again. */
  static void unruleOfEachLength() {
    Twins.unchanged("unrule() of none", LightestRules::new, x -> x.unrule(), 0);
    for (int n = 1; n <= 4; n++) {
      LightestRules x = Checks.land("R000P20000P20000");
      for (int i = 0; i < n; i++) {
        x.ruled(1);
      }
      Checks.due("unrule()", x.unrule(), n);
      Checks.due("count(6)", x.count(6), 0);
      Checks.due("line()", x.line(), 1);
      Checks.due("unrule()", x.unrule(), 0);
      for (int i = 1; i <= 4; i++) {
        Checks.due("month " + i, x.ruled(0), i);
      }
      Checks.due("a fifth", x.ruled(0), Checks.FULL);
    }
  }

  /** WEIGHINGS and SEARCHES stay. */
  static void unruleLeavesTheRest() {
    LightestRules x = Twins.livedIn();
    x.unrule();
    Checks.due("weighings", x.count(4), 2);
    Checks.due("searches", x.count(5), 2);
    Checks.due("acts", x.count(3), Twins.livedIn().count(3));
    Checks.due("who ruled", x.count(9), Twins.livedIn().count(9));
  }

  // ---- promise 28: line

  /** "(one, if it is empty ..)", of one, two, three PEOPLE. */
  static void lineThatIsEmpty() {
    for (int people = 1; people <= 3; people++) {
      Checks.due("line()", Checks.land("R000" + "P20000".repeat(people)).line(), 1);
    }
  }

  /** "STATE: more than 3 PEOPLE, or none": with and without a LINE. */
  static void lineOfTooManyOrNone() {
    int[] wrong = {0, 4, 5};
    for (int people : wrong) {
      String text = "R000" + "P20000".repeat(people);
      Twins.unchanged("line() of " + people, () -> Checks.land(text), x -> x.line(), Checks.STATE);
      Twins.unchanged("line() of " + people + ", told", () -> toldThen(text), x -> x.line(), Checks.STATE);
    }
  }

  private static LightestRules toldThen(String text) {
    LightestRules x = Twins.livedIn();
    Checks.rewrite(x, text);
    x.land();
    return x;
  }

  /** "none, if a ruler of it is not there": first, last, each of the months. */
  static void lineOfOneThatIsNotThere() {
    for (int month = 0; month < 4; month++) {
      for (int gone = 1; gone <= 4; gone++) {
        LightestRules x = Checks.land("R000P20000P90000P90000P90000P90000");
        for (int i = 0; i < 4; i++) {
          x.ruled(i == month ? gone : 0);
        }
        Checks.rewrite(x, "R000" + "P20000".repeat(Math.min(gone, 3)));
        x.land();
        Checks.due("line() with " + gone + " in month " + month, x.line(), 0);
        Checks.due("count(6)", x.count(6), 4);
      }
    }
  }

  /** "each PERSON eats 0 to 3 (8 ounces each)": two of each distance, one month. */
  static void lineByEachOunce() {
    for (int over = -40; over <= 40; over++) {
      for (int ruler = 0; ruler < 2; ruler++) {
        LightestRules x = Checks.land("R000P" + (300 + over) + "00P30000");
        x.ruled(ruler);
        Checks.due("line() of " + over + ", " + ruler, x.line(),
            FoundOutTest.plainLine(new int[] {300 + over, 300}, new int[] {ruler}, 0));
      }
    }
    LightestRules just = Checks.land("R000P32400P30000");
    just.ruled(0);
    Checks.due("24 ounces: only 0 against 3", just.line(), 1);
    LightestRules ahead = Checks.land("R000P30000P32400");
    ahead.ruled(1);
    Checks.due("24 ounces over one told ahead: none", ahead.line(), 0);
    LightestRules less = Checks.land("R000P30000P32300");
    less.ruled(1);
    Checks.due("23 ounces over one told ahead", less.line(), 1);
  }

  /** What was eaten stays: 96 ounces in four months are the most. */
  static void lineByWhatStays() {
    for (int over = 94; over <= 98; over++) {
      LightestRules behind = Checks.land("R000P" + (300 + over) + "00P30000");
      behind.ruled(1);
      behind.ruled(1);
      behind.ruled(1);
      behind.ruled(0);
      Checks.due("over one told behind by " + over, behind.line(), over <= 96 ? 1 : 0);
      LightestRules ahead = Checks.land("R000P30000P" + (300 + over) + "00");
      ahead.ruled(0);
      ahead.ruled(0);
      ahead.ruled(0);
      ahead.ruled(1);
      Checks.due("over one told ahead by " + over, ahead.line(), over < 96 ? 1 : 0);
    }
  }

  /** The most rows there are: three far apart, four months, 4 meals each: 64 to the fourth. */
  static void lineOfAllRows() {
    for (int people = 1; people <= 3; people++) {
      LightestRules x = Checks.land("R000P10000P90000P90000".substring(0, 4 + 6 * people));
      long due = 1;
      for (int month = 1; month <= 4; month++) {
        x.ruled(0);
        due *= 1L << (2 * people);
        Checks.due(people + " people, month " + month, x.line(), due);
      }
    }
  }

  /** "by LAW 0", "as they are now": LAW, ILL and BURN are no matter, water and pockets weigh. */
  static void lineAsTheyAreNow() {
    for (int law = 0; law <= 2; law++) {
      LightestRules x = Checks.land("R" + law + "99P20000P20000");
      x.ruled(0);
      Checks.due("law " + law, x.line(), 10);
    }
    LightestRules x = Checks.land("R000P20000P20011");
    x.ruled(0);
    Checks.due("a loaf and a stone", x.line(), FoundOutTest.plainLine(new int[] {200, 218}, new int[] {0}, 0));
    x.drink(0, 6);
    Checks.due("water", x.line(), FoundOutTest.plainLine(new int[] {218, 218}, new int[] {0}, 0));
    LightestRules floor = Checks.weighing("R000", "00", 1, 1);
    floor.ruled(1);
    Checks.due("one ounce each", floor.line(), 6);
  }

  /** To ask changes nothing. */
  static void lineChangesNothing() {
    long rows = Twins.livedIn().line();
    Twins.unchanged("line()", Twins::livedIn, x -> x.line(), rows);
  }
}
