import java.util.Arrays;

/** People ruled by the lightest: the document's promises 1 to 33. */
public final class LightestRules {
  public static final int UNKNOWN = -1, OUTSIDE = -2, STATE = -3, FULL = -4, NONE = -9;

  /** What a check answers that finds nothing to refuse; no refusal is 0. */
  private static final int FINE = 0;
  private static final int LAWS = 3;

  private final LandText text;
  private final People folk;
  private final ActRow acts;
  private final Slots slots;
  private final Weighings weighings;
  private final Searches searches;
  private final RulersLine told;
  private final Year year;
  /** Stands apart from the people: neither an undone act nor a slot brings an older law back. */
  private int lawNow;

  public LightestRules() {
    text = new LandText();
    folk = new People();
    acts = new ActRow();
    slots = new Slots();
    weighings = new Weighings();
    searches = new Searches();
    told = new RulersLine();
    year = new Year();
    lawNow = 0;
  }

  // ---- the land

  public int write(int n, long v) {
    if (n < 1 || n > 8) {
      return OUTSIDE;
    }
    return text.append(n, v) ? text.length() : FULL;
  }

  public int wipe() {
    int was = text.length();
    text.clear();
    return was;
  }

  public int fault() {
    return text.firstFault();
  }

  public int land() {
    if (text.firstFault() != NONE) {
      return STATE;
    }
    lawNow = text.figure(1);
    folk.settle(text);
    acts.clear();
    slots.clear();
    return folk.size();
  }

  public int person(int person, int what) {
    if (!folk.has(person)) {
      return UNKNOWN;
    }
    switch (what) {
      case 0: return folk.get(person, People.WEIGHT);
      case 1: return folk.get(person, People.LOAVES);
      case 2: return folk.get(person, People.STONES);
      case 3: return folk.get(person, People.DRUNK);
      case 4: return folk.noonWeight(person);
      case 5: return folk.isIll(person) ? 1 : 0;
      case 6: return folk.get(person, People.CROWNED);
      default: return OUTSIDE;
    }
  }

  public int law(int law) {
    if (!isLaw(law)) {
      return OUTSIDE;
    }
    int was = lawNow;
    lawNow = law;
    return was;
  }

  private static boolean isLaw(int law) {
    return law >= 0 && law < LAWS;
  }

  // ---- acts

  public int eat(int person, int n) {
    int refusal = refusalOf(person, n);
    if (refusal != FINE) {
      return refusal;
    }
    if (folk.get(person, People.LOAVES) < n) {
      return STATE;
    }
    acts.remember(folk);
    folk.add(person, People.LOAVES, -n);
    return folk.gain(person, People.LOAF_OUNCES * n);
  }

  public int toil(int person, int n) {
    int refusal = refusalOf(person, n);
    if (refusal != FINE) {
      return refusal;
    }
    acts.remember(folk);
    return folk.gain(person, -People.TOIL_OUNCES * n);
  }

  public int drink(int person, int n) {
    int refusal = refusalOf(person, n);
    if (refusal != FINE) {
      return refusal;
    }
    int ounces = People.DRINK_OUNCES * n;
    if (folk.get(person, People.DRUNK) + ounces > People.MOST_DRUNK) {
      return STATE;
    }
    acts.remember(folk);
    folk.add(person, People.DRUNK, ounces);
    return folk.gain(person, ounces);
  }

  /** Meals, toil and water are refused alike: no such person, then n beside 1 to 9. */
  private int refusalOf(int person, int n) {
    if (!folk.has(person)) {
      return UNKNOWN;
    }
    return n < 1 || n > 9 ? OUTSIDE : FINE;
  }

  public int hand(int person, int other, boolean stone) {
    if (!folk.has(person) || !folk.has(other)) {
      return UNKNOWN;
    }
    int thing = stone ? People.STONES : People.LOAVES;
    if (person == other || folk.get(person, thing) == 0) {
      return STATE;
    }
    if (folk.get(other, thing) >= People.POCKET) {
      return FULL;
    }
    acts.remember(folk);
    folk.add(person, thing, -1);
    folk.add(other, thing, 1);
    return folk.get(other, thing);
  }

  public int day() {
    acts.remember(folk);
    folk.passDay();
    return folk.today();
  }

  public int crown() {
    return folk.crownedBy(lawNow);
  }

  public int noon() {
    int crowned = folk.crownedBy(lawNow);
    acts.remember(folk);
    if (crowned != NONE) {
      folk.add(crowned, People.CROWNED, 1);
    }
    return crowned;
  }

  public int undo() {
    if (acts.length() == 0) {
      return STATE;
    }
    acts.takeBack(folk);
    return acts.length();
  }

  // ---- won

  public int sure(int person, int d, int x) {
    int refusal = refusalOfSure(person, d, x);
    if (refusal != FINE) {
      return refusal;
    }
    int toil = leastSureToil(person, d, x);
    if (toil == NONE) {
      return NONE;
    }
    int harm = 0;
    for (int i = 0; i < d; i++) {
      harm += toilOnDay(toil, d, i) * toilOnDay(toil, d, i);
    }
    return harm;
  }

  public int sureAt(int person, int d, int x, int i) {
    int refusal = refusalOfSure(person, d, x);
    if (refusal != FINE) {
      return refusal;
    }
    int toil = leastSureToil(person, d, x);
    return toil == NONE || i < 0 || i >= d ? NONE : toilOnDay(toil, d, i);
  }

  private int refusalOfSure(int person, int d, int x) {
    if (!folk.has(person)) {
      return UNKNOWN;
    }
    if (d < 1 || d > 5 || x < 0 || x > 9) {
      return OUTSIDE;
    }
    return folk.size() == 1 ? STATE : FINE;
  }

  /**
   * Only the sum of the toil counts for who is lightest, and a larger sum always does more harm:
   * so the least sum that wins is the one of the best plan.
   */
  private int leastSureToil(int person, int d, int x) {
    for (int toil = 0; toil <= 9 * d; toil++) {
      if (folk.winsWith(person, toil, d, x)) {
        return toil;
      }
    }
    return NONE;
  }

  /** Squares are least when the toil is spread evenly; what is over goes on the last days. */
  private static int toilOnDay(int toil, int d, int i) {
    return d < 1 ? 0 : (toil + i) / d;
  }

  public int feed(int person) {
    return folk.has(person) ? folk.loavesToWin(person) : UNKNOWN;
  }

  // ---- found out

  public int weigh(int left, int right, int came) {
    if (!Weighings.mayStand(left, right) || came < 0 || came > 2) {
      return OUTSIDE;
    }
    return weighings.append(left, right, came) ? weighings.length() : FULL;
  }

  public int unweigh() {
    int were = weighings.length();
    weighings.clear();
    return were;
  }

  public int mayBe(boolean heavier) {
    return weighings.suspects(heavier);
  }

  public int search(int people, int n) {
    if (people < 1 || people > 31 || n < 0 || n > 45) {
      return OUTSIDE;
    }
    return searches.append(people, n) ? searches.length() : FULL;
  }

  public int unsearch() {
    int were = searches.length();
    searches.clear();
    return were;
  }

  public int rows() {
    return searches.fittingRows();
  }

  public int stones(int one, boolean most) {
    if (one < 0 || one >= People.MOST) {
      return OUTSIDE;
    }
    if (searches.fittingRows() == 0) {
      return NONE;
    }
    return most ? searches.mostOf(one) : searches.leastOf(one);
  }

  public int ruled(int person) {
    if (!folk.has(person)) {
      return UNKNOWN;
    }
    return told.append(person) ? told.length() : FULL;
  }

  public int unrule() {
    int were = told.length();
    told.clear();
    return were;
  }

  public long line() {
    if (folk.size() < 1 || folk.size() > RulersLine.EATERS) {
      return STATE;
    }
    return told.fittingMeals(folk);
  }

  // ---- years

  public long seed(long v) {
    return year.sow(v);
  }

  public int reign(int person, int law) {
    if (!folk.has(person)) {
      return UNKNOWN;
    }
    return isLaw(law) ? year.monthsOf(person, law, folk) : OUTSIDE;
  }

  // ---- slots

  public int keep(int slot) {
    if (!Slots.isSlot(slot)) {
      return UNKNOWN;
    }
    slots.put(slot, folk);
    return folk.today();
  }

  public int again(int slot) {
    if (!Slots.isSlot(slot)) {
      return UNKNOWN;
    }
    if (!slots.holds(slot)) {
      return STATE;
    }
    slots.bring(slot, folk);
    acts.clear();
    return folk.today();
  }

  public int count(int what) {
    switch (what) {
      case 0: return text.length();
      case 1: return folk.size();
      case 2: return folk.today();
      case 3: return acts.length();
      case 4: return weighings.length();
      case 5: return searches.length();
      case 6: return told.length();
      case 7: return lawNow;
      case 8: return folk.illBits();
      case 9: return folk.crownings();
      default: return OUTSIDE;
    }
  }

  /** THE TEXT, and what of it is a land. */
  private static final class LandText {
    private static final int MOST = 48;
    /** R and three figures stand ahead of the parts. */
    private static final int HEAD = 4;
    private static final int PART = 6;

    private final int[] bytes;
    private int length;

    LandText() {
      bytes = new int[MOST];
      length = 0;
    }

    int length() {
      return length;
    }

    void clear() {
      length = 0;
    }

    boolean append(int n, long v) {
      if (n > MOST - length) {
        return false;
      }
      for (int left = n - 1; left >= 0; left--) {
        bytes[length] = (int) (v >>> (8 * left)) & 255;
        length++;
      }
      return true;
    }

    int firstFault() {
      for (int place = 0; place < length; place++) {
        if (!mayStandAt(place, bytes[place])) {
          return place;
        }
      }
      return length >= HEAD && (length - HEAD) % PART == 0 ? NONE : length;
    }

    private static boolean mayStandAt(int place, int sign) {
      if (place == 0) {
        return sign == 'R';
      }
      if (place == 1) {
        return sign >= '0' && sign < '0' + LAWS;
      }
      if (place >= HEAD && (place - HEAD) % PART == 0) {
        return sign == 'P' && (place - HEAD) / PART < People.MOST;
      }
      boolean hundreds = place >= HEAD && (place - HEAD) % PART == 1;
      return sign >= (hundreds ? '1' : '0') && sign <= '9';
    }

    int parts() {
      return length < HEAD ? 0 : (length - HEAD) / PART;
    }

    int figure(int place) {
      return place < 0 || place >= length ? 0 : bytes[place] - '0';
    }

    /** The i-th figure (from 0) behind the P of a part. */
    int partFigure(int part, int i) {
      return figure(HEAD + PART * part + 1 + i);
    }
  }

  /**
   * Who lives in the land, and THE DAY. All that acts change and slots keep stands in one row of
   * cells, so that it is kept and brought back by one copy.
   */
  private static final class People {
    static final int MOST = 5;
    static final int POCKET = 9;
    static final int MOST_DRUNK = 90;
    static final int LOAF_OUNCES = 8;
    static final int STONE_OUNCES = 10;
    static final int TOIL_OUNCES = 5;
    static final int DRINK_OUNCES = 3;
    static final int BURN_OUNCES = 2;
    static final int ILL_OUNCES = 40;
    static final int LEAST_WEIGHT = 1;

    static final int WEIGHT = 0;
    static final int LOAVES = 1;
    static final int STONES = 2;
    static final int DRUNK = 3;
    static final int CROWNED = 4;
    private static final int COLUMNS = 5;
    private static final int DAY = MOST * COLUMNS;
    static final int CELLS = DAY + 1;

    private final int[] cells;
    private int size;
    private int burn;
    private int ill;

    People() {
      cells = new int[CELLS];
      size = 0;
      burn = 0;
      ill = 0;
    }

    void settle(LandText land) {
      Arrays.fill(cells, 0);
      burn = land.figure(2);
      ill = land.figure(3);
      size = Math.min(land.parts(), MOST);
      for (int i = 0; i < size; i++) {
        add(i, WEIGHT, 100 * land.partFigure(i, 0) + 10 * land.partFigure(i, 1) + land.partFigure(i, 2));
        add(i, LOAVES, land.partFigure(i, 3));
        add(i, STONES, land.partFigure(i, 4));
      }
    }

    void becomeLike(People other) {
      System.arraycopy(other.cells, 0, cells, 0, CELLS);
      size = other.size;
      burn = other.burn;
      ill = other.ill;
    }

    /** The n-th stretch of a row that has room for it; burn, ill and how many they are stay. */
    void copyTo(int[] row, int n) {
      if (n >= 0 && n < row.length / CELLS) {
        System.arraycopy(cells, 0, row, n * CELLS, CELLS);
      }
    }

    void copyFrom(int[] row, int n) {
      if (n >= 0 && n < row.length / CELLS) {
        System.arraycopy(row, n * CELLS, cells, 0, CELLS);
      }
    }

    int size() {
      return size;
    }

    boolean has(int person) {
      return person >= 0 && person < size;
    }

    int get(int person, int column) {
      int at = person * COLUMNS + column;
      return at >= 0 && at < DAY ? cells[at] : 0;
    }

    void add(int person, int column, int n) {
      int at = person * COLUMNS + column;
      if (at >= 0 && at < DAY) {
        cells[at] += n;
      }
    }

    /** The weight is more, or below 0 less, by some ounces; what it is then. */
    int gain(int person, int ounces) {
      int was = get(person, WEIGHT);
      add(person, WEIGHT, Math.max(LEAST_WEIGHT, was + ounces) - was);
      return get(person, WEIGHT);
    }

    int today() {
      return cells[DAY];
    }

    void passDay() {
      cells[DAY]++;
      for (int i = 0; i < size; i++) {
        int drunk = get(i, DRUNK);
        gain(i, -drunk - BURN_OUNCES * burn);
        add(i, DRUNK, -drunk);
      }
    }

    private int pocketWeight(int person) {
      return LOAF_OUNCES * get(person, LOAVES) + STONE_OUNCES * get(person, STONES);
    }

    int noonWeight(int person) {
      return get(person, WEIGHT) + pocketWeight(person);
    }

    boolean isIll(int person) {
      return get(person, WEIGHT) < ILL_OUNCES * ill;
    }

    int illBits() {
      int bits = 0;
      for (int i = 0; i < size; i++) {
        if (isIll(i)) {
          bits |= 1 << i;
        }
      }
      return bits;
    }

    int crownings() {
      int sum = 0;
      for (int i = 0; i < size; i++) {
        sum += get(i, CROWNED);
      }
      return sum;
    }

    int crownedBy(int law) {
      if (law == 2) {
        return lightestBut(illBits());
      }
      int lightest = lightestBut(0);
      return law == 1 && lightest != NONE ? lightestBut(1 << lightest) : lightest;
    }

    private int lightestBut(int bits) {
      int lightest = NONE;
      for (int i = 0; i < size; i++) {
        boolean stands = (bits >> i & 1) == 0;
        if (stands && (lightest == NONE || noonWeight(i) < noonWeight(lightest))) {
          lightest = i;
        }
      }
      return lightest;
    }

    /** Whether a person that toils by so much in d days wins, though all others toil by x each day. */
    boolean winsWith(int person, int toil, int d, int x) {
      int own = noonWeightBehind(person, toil, d);
      for (int i = 0; i < size; i++) {
        int others = noonWeightBehind(i, x * d, d);
        if (i != person && (others < own || others == own && i < person)) {
          return false;
        }
      }
      return true;
    }

    /**
     * All that happens in these days makes lighter, so that the least weight, that holds at each
     * step, may be looked at once, at the end; and the days on which one toils are all alike.
     */
    private int noonWeightBehind(int person, int toil, int d) {
      int left = get(person, WEIGHT) - get(person, DRUNK) - TOIL_OUNCES * toil - BURN_OUNCES * burn * d;
      return Math.max(LEAST_WEIGHT, left) + pocketWeight(person);
    }

    int loavesToWin(int person) {
      int loaves = 0;
      for (int i = 0; i < size; i++) {
        // Of like ones the least person is lighter: one told earlier must be an ounce heavier.
        int lacks = noonWeight(person) - noonWeight(i) + (i < person ? 1 : 0);
        if (lacks > 0 && i != person) {
          loaves += (lacks + LOAF_OUNCES - 1) / LOAF_OUNCES;
        }
      }
      return loaves;
    }
  }

  /** THE ROW of ACTS: how the people were ahead of each; a ring, so that the first one is forgotten. */
  private static final class ActRow {
    private static final int MOST = 16;

    private final int[] before;
    private int first;
    private int length;

    ActRow() {
      before = new int[MOST * People.CELLS];
      first = 0;
      length = 0;
    }

    int length() {
      return length;
    }

    void clear() {
      length = 0;
    }

    void remember(People people) {
      if (length == MOST) {
        first = (first + 1) % MOST;
        length--;
      }
      people.copyTo(before, (first + length) % MOST);
      length++;
    }

    void takeBack(People people) {
      if (length > 0) {
        length--;
        people.copyFrom(before, (first + length) % MOST);
      }
    }
  }

  /** The people as they were kept. */
  private static final class Slots {
    private static final int MOST = 2;

    private final int[] kept;
    private int filledBits;

    Slots() {
      kept = new int[MOST * People.CELLS];
      filledBits = 0;
    }

    static boolean isSlot(int slot) {
      return slot >= 0 && slot < MOST;
    }

    void clear() {
      filledBits = 0;
    }

    boolean holds(int slot) {
      return isSlot(slot) && (filledBits >> slot & 1) == 1;
    }

    void put(int slot, People people) {
      if (isSlot(slot)) {
        people.copyTo(kept, slot);
        filledBits |= 1 << slot;
      }
    }

    void bring(int slot, People people) {
      if (holds(slot)) {
        people.copyFrom(kept, slot);
      }
    }
  }

  /** Nine weights, one of them false. */
  private static final class Weighings {
    private static final int MOST = 10;
    private static final int WEIGHTS = 9;
    private static final int ALL = (1 << WEIGHTS) - 1;

    private final int[] lefts;
    private final int[] rights;
    private final int[] results;
    private int length;

    Weighings() {
      lefts = new int[MOST];
      rights = new int[MOST];
      results = new int[MOST];
      length = 0;
    }

    static boolean mayStand(int left, int right) {
      boolean known = left > 0 && left <= ALL && right > 0 && right <= ALL;
      return known && (left & right) == 0 && Integer.bitCount(left) == Integer.bitCount(right);
    }

    int length() {
      return length;
    }

    void clear() {
      length = 0;
    }

    boolean append(int left, int right, int came) {
      if (length == MOST) {
        return false;
      }
      lefts[length] = left;
      rights[length] = right;
      results[length] = came;
      length++;
      return true;
    }

    int suspects(boolean heavier) {
      int bits = ALL;
      for (int i = 0; i < length; i++) {
        bits &= suspectsBy(i, heavier);
      }
      return bits;
    }

    /** The false one lay on the side that sank, if it is the heavier one, else on the other side. */
    private int suspectsBy(int i, boolean heavier) {
      if (results[i] == 0) {
        return ALL & ~(lefts[i] | rights[i]);
      }
      boolean leftSank = results[i] == 1;
      return leftSank == heavier ? lefts[i] : rights[i];
    }
  }

  /** Stones that some people had together. */
  private static final class Searches {
    private static final int MOST = 8;
    private static final int STONES = 10;

    private final int[] searched;
    /** What was found; less what the people are given while the rows are looked through. */
    private final int[] missing;
    private final int[] least;
    private final int[] most;
    private int length;
    private int found;
    /** Whether found, least and most tell of the searches as they are. */
    private boolean fresh;

    Searches() {
      searched = new int[MOST];
      missing = new int[MOST];
      least = new int[People.MOST];
      most = new int[People.MOST];
      length = 0;
      found = 0;
      fresh = false;
    }

    int length() {
      return length;
    }

    void clear() {
      length = 0;
      fresh = false;
    }

    boolean append(int people, int n) {
      if (length == MOST) {
        return false;
      }
      searched[length] = people;
      missing[length] = n;
      length++;
      fresh = false;
      return true;
    }

    int leastOf(int one) {
      return one < 0 || one >= People.MOST ? NONE : least[one];
    }

    int mostOf(int one) {
      return one < 0 || one >= People.MOST ? NONE : most[one];
    }

    int fittingRows() {
      if (!fresh) {
        Arrays.fill(least, STONES);
        Arrays.fill(most, NONE);
        found = rowsFrom(this, 0);
        fresh = true;
      }
      return found;
    }

    /** How many rows of the people from one on fit, with what those ahead of it were given. */
    private static int rowsFrom(Searches s, int one) {
      if (one < 0 || one >= People.MOST) {
        return 1;
      }
      int from = s.fewestFor(one);
      int to = s.greatestFor(one);
      if (!s.anySearched(one)) {
        return STONES * s.noted(one, from, to, rowsFrom(s, one + 1));
      }
      int sum = 0;
      for (int stones = from; stones <= to; stones++) {
        s.give(one, stones);
        sum += s.noted(one, stones, stones, rowsFrom(s, one + 1));
        s.give(one, -stones);
      }
      return sum;
    }

    private boolean isIn(int one, int i) {
      return (searched[i] >> one & 1) == 1;
    }

    private boolean anySearched(int one) {
      for (int i = 0; i < length; i++) {
        if (isIn(one, i)) {
          return true;
        }
      }
      return false;
    }

    /** What those behind can not have, it must have: so the last one of a search has just what is missing. */
    private int fewestFor(int one) {
      int fewest = 0;
      for (int i = 0; i < length; i++) {
        if (isIn(one, i)) {
          int behind = Integer.bitCount(searched[i] >> (one + 1));
          fewest = Math.max(fewest, missing[i] - (STONES - 1) * behind);
        }
      }
      return fewest;
    }

    private int greatestFor(int one) {
      int greatest = STONES - 1;
      for (int i = 0; i < length; i++) {
        if (isIn(one, i)) {
          greatest = Math.min(greatest, missing[i]);
        }
      }
      return greatest;
    }

    private void give(int one, int stones) {
      for (int i = 0; i < length; i++) {
        if (isIn(one, i)) {
          missing[i] -= stones;
        }
      }
    }

    /** Widens what one can have, if there are rows with it; a start of a row alone proves nothing. */
    private int noted(int one, int from, int to, int rows) {
      if (rows > 0 && one >= 0 && one < People.MOST) {
        least[one] = Math.min(least[one], from);
        most[one] = Math.max(most[one], to);
      }
      return rows;
    }
  }

  /**
   * A told line of rulers. The meals are counted by what each has eaten so far: ways[..] is how many
   * rows of meals lead there, with a stride for each person.
   */
  private static final class RulersLine {
    static final int EATERS = 3;
    private static final int MONTHS = 4;
    private static final int MEAL = 3;
    private static final int EATEN = MONTHS * MEAL + 1;
    private static final int[] STRIDES = {1, EATEN, EATEN * EATEN};
    private static final int ALL_WAYS = EATEN * EATEN * EATEN;

    private final int[] rulers;
    private final int[] weights;
    private final long[] ways;
    private int length;

    RulersLine() {
      rulers = new int[MONTHS];
      weights = new int[EATERS];
      ways = new long[ALL_WAYS];
      length = 0;
    }

    int length() {
      return length;
    }

    void clear() {
      length = 0;
    }

    boolean append(int ruler) {
      if (length == MONTHS) {
        return false;
      }
      rulers[length] = ruler;
      length++;
      return true;
    }

    long fittingMeals(People people) {
      int eaters = Math.min(people.size(), EATERS);
      for (int i = 0; i < eaters; i++) {
        weights[i] = people.noonWeight(i);
      }
      Arrays.fill(ways, 0L);
      ways[0] = 1L;
      int end = 1;
      for (int month = 0; month < length; month++) {
        for (int i = 0; i < eaters; i++) {
          end += MEAL * STRIDES[i];
        }
        for (int i = 0; i < eaters; i++) {
          letEat(STRIDES[i], end);
        }
        strikeOut(rulers[month], eaters, end);
      }
      return sumOfWays(end);
    }

    /** From the end on, so that what is added is still as it was ahead of this month. */
    private void letEat(int stride, int end) {
      if (stride < 1) {
        return;
      }
      for (int at = Math.min(end, ALL_WAYS) - 1; at >= stride; at--) {
        int meals = Math.min(MEAL, at / stride % EATEN);
        for (int meal = 1; meal <= meals; meal++) {
          ways[at] += ways[at - meal * stride];
        }
      }
    }

    private void strikeOut(int ruler, int eaters, int end) {
      for (int at = 0; at < end && at < ALL_WAYS; at++) {
        if (ways[at] != 0L && lightestAt(at, eaters) != ruler) {
          ways[at] = 0L;
        }
      }
    }

    private int lightestAt(int at, int eaters) {
      int lightest = NONE;
      int least = 0;
      int eaten = at;
      for (int i = 0; i < eaters && i < EATERS; i++) {
        int weight = weights[i] + People.LOAF_OUNCES * (eaten % EATEN);
        if (lightest == NONE || weight < least) {
          lightest = i;
          least = weight;
        }
        eaten /= EATEN;
      }
      return lightest;
    }

    private long sumOfWays(int end) {
      long sum = 0L;
      for (int at = 0; at < end && at < ALL_WAYS; at++) {
        sum += ways[at];
      }
      return sum;
    }
  }

  /** Years by THE SEED, lived by people that only look like those of the land. */
  private static final class Year {
    private static final int MONTHS = 12;
    private static final long TIMES = 6364136223846793005L;
    private static final long PLUS = 1442695040888963407L;

    private final People lookalikes;
    private long grown;

    Year() {
      lookalikes = new People();
      grown = 0L;
    }

    long sow(long v) {
      long was = grown;
      grown = v;
      return was;
    }

    int monthsOf(int person, int law, People people) {
      lookalikes.becomeLike(people);
      int months = 0;
      for (int month = 0; month < MONTHS; month++) {
        for (int i = 0; i < lookalikes.size(); i++) {
          lookalikes.gain(i, nextOunces());
        }
        if (lookalikes.crownedBy(law) == person) {
          months++;
        }
      }
      return months;
    }

    private int nextOunces() {
      grown = grown * TIMES + PLUS;
      int upper = (int) (grown >>> 33);
      return (upper % 7 - 3) * 5;
    }
  }
}
