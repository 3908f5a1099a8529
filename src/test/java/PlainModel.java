import java.util.ArrayList;
import java.util.List;
import java.util.function.Consumer;

/**
 * The document once more, by the plainest ways: acts are a list that is lived through again from
 * its start, and what is found out is found by trying everything.
 */
final class PlainModel {
  private static final String LAND = "R[0-2][0-9][0-9](P[1-9][0-9][0-9][0-9][0-9]){0,5}";
  private static final String FILL = "R000" + "P10000".repeat(5);

  /** Rows of weight, loaves, stones, what was drunk, how often ruled; and the day. */
  private static final class Folk {
    private final List<int[]> people = new ArrayList<>();
    private int day = 0;

    Folk copy() {
      Folk copy = new Folk();
      copy.day = day;
      for (int[] one : people) {
        copy.people.add(one.clone());
      }
      return copy;
    }
  }

  private String text = "";
  private int lawNow = 0;
  private int burn = 0;
  private int ill = 0;
  private Folk start = new Folk();
  private final List<Consumer<Folk>> acts = new ArrayList<>();
  private final Folk[] slots = new Folk[2];
  private final List<int[]> weighings = new ArrayList<>();
  private final List<int[]> searches = new ArrayList<>();
  private final List<Integer> told = new ArrayList<>();
  private long seedNow = 0;

  private Folk now() {
    Folk folk = start.copy();
    for (Consumer<Folk> act : acts) {
      act.accept(folk);
    }
    return folk;
  }

  private void act(Consumer<Folk> act) {
    acts.add(act);
    if (acts.size() > 16) {
      acts.remove(0).accept(start);
    }
  }

  private boolean has(int person) {
    return person >= 0 && person < start.people.size();
  }

  private static boolean within(int n, int from, int to) {
    return n >= from && n <= to;
  }

  int write(int n, long v) {
    if (!within(n, 1, 8)) {
      return Checks.OUTSIDE;
    }
    if (text.length() + n > 48) {
      return Checks.FULL;
    }
    StringBuilder more = new StringBuilder();
    for (int i = 0; i < n; i++) {
      more.insert(0, (char) Math.floorMod(v, 256L));
      v = Math.floorDiv(v, 256L);
    }
    text += more;
    return text.length();
  }

  int wipe() {
    int was = text.length();
    text = "";
    return was;
  }

  int fault() {
    for (int end = 1; end <= text.length(); end++) {
      boolean can = end <= FILL.length() && (text.substring(0, end) + FILL.substring(end)).matches(LAND);
      if (!can) {
        return end - 1;
      }
    }
    return text.matches(LAND) ? Checks.NONE : text.length();
  }

  int land() {
    if (!text.matches(LAND)) {
      return Checks.STATE;
    }
    lawNow = Integer.parseInt(text.substring(1, 2));
    burn = Integer.parseInt(text.substring(2, 3));
    ill = Integer.parseInt(text.substring(3, 4));
    start = new Folk();
    for (int at = 4; at < text.length(); at += 6) {
      int[] one = new int[5];
      one[0] = Integer.parseInt(text.substring(at + 1, at + 4));
      one[1] = Integer.parseInt(text.substring(at + 4, at + 5));
      one[2] = Integer.parseInt(text.substring(at + 5, at + 6));
      start.people.add(one);
    }
    acts.clear();
    slots[0] = null;
    slots[1] = null;
    return start.people.size();
  }

  int person(int person, int what) {
    if (!has(person)) {
      return Checks.UNKNOWN;
    }
    int[] one = now().people.get(person);
    int[] known = {
      one[0], one[1], one[2], one[3], one[0] + 8 * one[1] + 10 * one[2], one[0] < 40 * ill ? 1 : 0, one[4],
    };
    return within(what, 0, 6) ? known[what] : Checks.OUTSIDE;
  }

  int law(int law) {
    if (!within(law, 0, 2)) {
      return Checks.OUTSIDE;
    }
    int was = lawNow;
    lawNow = law;
    return was;
  }

  int eat(int person, int n) {
    if (!has(person) || !within(n, 1, 9)) {
      return has(person) ? Checks.OUTSIDE : Checks.UNKNOWN;
    }
    if (person(person, 1) < n) {
      return Checks.STATE;
    }
    act(f -> {
      f.people.get(person)[1] -= n;
      f.people.get(person)[0] += 8 * n;
    });
    return person(person, 0);
  }

  int toil(int person, int n) {
    if (!has(person) || !within(n, 1, 9)) {
      return has(person) ? Checks.OUTSIDE : Checks.UNKNOWN;
    }
    act(f -> f.people.get(person)[0] = Math.max(1, f.people.get(person)[0] - 5 * n));
    return person(person, 0);
  }

  int drink(int person, int n) {
    if (!has(person) || !within(n, 1, 9)) {
      return has(person) ? Checks.OUTSIDE : Checks.UNKNOWN;
    }
    if (person(person, 3) + 3 * n > 90) {
      return Checks.STATE;
    }
    act(f -> {
      f.people.get(person)[0] += 3 * n;
      f.people.get(person)[3] += 3 * n;
    });
    return person(person, 0);
  }

  int hand(int person, int other, boolean stone) {
    int thing = stone ? 2 : 1;
    if (!has(person) || !has(other)) {
      return Checks.UNKNOWN;
    }
    if (person == other || person(person, thing) == 0) {
      return Checks.STATE;
    }
    if (person(other, thing) == 9) {
      return Checks.FULL;
    }
    act(f -> {
      f.people.get(person)[thing]--;
      f.people.get(other)[thing]++;
    });
    return person(other, thing);
  }

  int day() {
    int burnt = 2 * burn;
    act(f -> {
      f.day++;
      for (int[] one : f.people) {
        one[0] = Math.max(1, one[0] - one[3]);
        one[3] = 0;
        one[0] = Math.max(1, one[0] - burnt);
      }
    });
    return now().day;
  }

  private int[] column(int column) {
    return now().people.stream().mapToInt(one -> one[column]).toArray();
  }

  private int[] pockets() {
    return now().people.stream().mapToInt(one -> 8 * one[1] + 10 * one[2]).toArray();
  }

  int crown() {
    return PlainYear.crowned(column(0), pockets(), ill, lawNow);
  }

  int noon() {
    int crowned = crown();
    act(f -> {
      if (crowned >= 0) {
        f.people.get(crowned)[4]++;
      }
    });
    return crowned;
  }

  int undo() {
    if (acts.isEmpty()) {
      return Checks.STATE;
    }
    acts.remove(acts.size() - 1);
    return acts.size();
  }

  private int refusalOfSure(int person, int d, int x) {
    if (!has(person)) {
      return Checks.UNKNOWN;
    }
    if (!within(d, 1, 5) || !within(x, 0, 9)) {
      return Checks.OUTSIDE;
    }
    return start.people.size() == 1 ? Checks.STATE : 0;
  }

  private PlainSure plan(int person, int d, int x) {
    PlainSure plain = new PlainSure(column(0), column(3), pockets(), burn);
    plain.ask(person, d, x);
    return plain;
  }

  int sure(int person, int d, int x) {
    int refusal = refusalOfSure(person, d, x);
    return refusal != 0 ? refusal : plan(person, d, x).harm();
  }

  int sureAt(int person, int d, int x, int i) {
    int refusal = refusalOfSure(person, d, x);
    return refusal != 0 ? refusal : plan(person, d, x).toilOn(i);
  }

  int feed(int person) {
    if (!has(person)) {
      return Checks.UNKNOWN;
    }
    int[] weights = column(0);
    int[] pockets = pockets();
    int loaves = 0;
    for (int crowned = Checks.NONE; crowned != person && loaves < 10000; ) {
      crowned = PlainYear.crowned(weights, pockets, 0, 0);
      if (crowned != person) {
        pockets[crowned] += 8;
        loaves++;
      }
    }
    return loaves;
  }

  int weigh(int left, int right, int came) {
    boolean sides = within(left, 0, 511) && within(right, 0, 511) && (left & right) == 0 && left != 0;
    if (!sides || Integer.bitCount(left) != Integer.bitCount(right) || !within(came, 0, 2)) {
      return Checks.OUTSIDE;
    }
    if (weighings.size() == 10) {
      return Checks.FULL;
    }
    weighings.add(new int[] {left, right, came});
    return weighings.size();
  }

  int unweigh() {
    int were = weighings.size();
    weighings.clear();
    return were;
  }

  int mayBe(boolean heavier) {
    return FoundOutTest.plainMayBe(weighings.toArray(new int[0][]), weighings.size(), heavier ? 11 : 9);
  }

  int search(int people, int n) {
    if (!within(people, 1, 31) || !within(n, 0, 45)) {
      return Checks.OUTSIDE;
    }
    if (searches.size() == 8) {
      return Checks.FULL;
    }
    searches.add(new int[] {people, n});
    return searches.size();
  }

  int unsearch() {
    int were = searches.size();
    searches.clear();
    return were;
  }

  private List<int[]> fitting() {
    List<int[]> rows = new ArrayList<>();
    for (int row = 0; row < 100000; row++) {
      int[] stones = {row % 10, row / 10 % 10, row / 100 % 10, row / 1000 % 10, row / 10000};
      boolean fits = true;
      for (int i = 0; i < searches.size() && fits; i++) {
        fits = FoundOutTest.sumOf(stones, searches.get(i)[0]) == searches.get(i)[1];
      }
      if (fits) {
        rows.add(stones);
      }
    }
    return rows;
  }

  int rows() {
    return fitting().size();
  }

  int stones(int one, boolean most) {
    if (!within(one, 0, 4)) {
      return Checks.OUTSIDE;
    }
    int best = Checks.NONE;
    for (int[] row : fitting()) {
      best = best == Checks.NONE ? row[one] : most ? Math.max(best, row[one]) : Math.min(best, row[one]);
    }
    return best;
  }

  int ruled(int person) {
    if (!has(person)) {
      return Checks.UNKNOWN;
    }
    if (told.size() == 4) {
      return Checks.FULL;
    }
    told.add(person);
    return told.size();
  }

  int unrule() {
    int were = told.size();
    told.clear();
    return were;
  }

  long line() {
    if (!within(start.people.size(), 1, 3)) {
      return Checks.STATE;
    }
    int[] weights = column(0);
    int[] pockets = pockets();
    for (int i = 0; i < weights.length; i++) {
      weights[i] += pockets[i];
    }
    return FoundOutTest.plainLine(weights, told.stream().mapToInt(i -> i).toArray(), 0);
  }

  long seed(long v) {
    long was = seedNow;
    seedNow = v;
    return was;
  }

  int reign(int person, int law) {
    if (!has(person) || !within(law, 0, 2)) {
      return has(person) ? Checks.OUTSIDE : Checks.UNKNOWN;
    }
    PlainYear year = new PlainYear(column(0), pockets(), ill);
    year.live(seedNow, law);
    seedNow = year.seed();
    return year.months(person);
  }

  int keep(int slot) {
    if (!within(slot, 0, 1)) {
      return Checks.UNKNOWN;
    }
    slots[slot] = now();
    return now().day;
  }

  int again(int slot) {
    if (!within(slot, 0, 1)) {
      return Checks.UNKNOWN;
    }
    if (slots[slot] == null) {
      return Checks.STATE;
    }
    start = slots[slot].copy();
    acts.clear();
    return start.day;
  }

  int count(int what) {
    int illBits = 0;
    int noons = 0;
    for (int i = 0; i < start.people.size(); i++) {
      illBits |= person(i, 5) << i;
      noons += person(i, 6);
    }
    int[] counts = {
      text.length(), start.people.size(), now().day, acts.size(), weighings.size(), searches.size(), told.size(),
      lawNow, illBits, noons,
    };
    return within(what, 0, 9) ? counts[what] : Checks.OUTSIDE;
  }
}
