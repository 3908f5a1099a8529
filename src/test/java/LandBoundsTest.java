/** Promises 1 to 7 at their bounds, each case by itself. */
public final class LandBoundsTest {
  private static final String FIVE = "R000P10000P20000P30000P40000P50000";
  private static final String FIGURES = "0123456789";

  public static void main(String[] args) throws IllegalAccessException {
    Cases.runAll(LandBoundsTest.class);
  }

  // ---- promise 1: a new object

  /** "Nobody." */
  static void newObjectHasNobody() {
    LightestRules x = new LightestRules();
    Checks.due("count(1)", x.count(1), 0);
    Checks.due("person(0, 0)", x.person(0, 0), Checks.UNKNOWN);
    Checks.due("who is ill", x.count(8), 0);
  }

  /** "At first THE LAND is R000": its law is 0. */
  static void newObjectHasLawZero() {
    Checks.due("count(7)", new LightestRules().count(7), 0);
    Checks.due("law(2)", new LightestRules().law(2), 0);
  }

  /** "THE DAY is 0 at first, nobody has ruled." */
  static void newObjectIsOnDayZero() {
    Checks.due("count(2)", new LightestRules().count(2), 0);
    Checks.due("keep(0)", new LightestRules().keep(0), 0);
    Checks.due("day()", new LightestRules().day(), 1);
    Checks.due("count(9)", new LightestRules().count(9), 0);
  }

  /** All rows are empty at first, THE SEED is 0. */
  static void newObjectIsEmpty() {
    int[] rows = {0, 3, 4, 5, 6};
    for (int what : rows) {
      Checks.due("count(" + what + ")", new LightestRules().count(what), 0);
    }
    Checks.due("wipe()", new LightestRules().wipe(), 0);
    Checks.due("undo()", new LightestRules().undo(), Checks.STATE);
    Checks.due("unweigh()", new LightestRules().unweigh(), 0);
    Checks.due("unsearch()", new LightestRules().unsearch(), 0);
    Checks.due("unrule()", new LightestRules().unrule(), 0);
    Checks.due("again(0)", new LightestRules().again(0), Checks.STATE);
    Checks.due("again(1)", new LightestRules().again(1), Checks.STATE);
    Checks.due("seed(1)", new LightestRules().seed(1), 0);
  }

  /** Every call with a PERSON is refused, where there is nobody. */
  static void newObjectRefusesPeople() {
    for (int person = -1; person <= 5; person++) {
      int who = person;
      LightestRules x = new LightestRules();
      Checks.due("eat", x.eat(who, 1), Checks.UNKNOWN);
      Checks.due("toil", x.toil(who, 1), Checks.UNKNOWN);
      Checks.due("drink", x.drink(who, 1), Checks.UNKNOWN);
      Checks.due("hand", x.hand(who, who, true), Checks.UNKNOWN);
      Checks.due("sure", x.sure(who, 1, 1), Checks.UNKNOWN);
      Checks.due("sureAt", x.sureAt(who, 1, 1, 0), Checks.UNKNOWN);
      Checks.due("feed", x.feed(who), Checks.UNKNOWN);
      Checks.due("ruled", x.ruled(who), Checks.UNKNOWN);
      Checks.due("reign", x.reign(who, 0), Checks.UNKNOWN);
      Checks.due("acts", x.count(3), 0);
    }
  }

  /** What one object is told, another one does not know. */
  static void newObjectStandsAlone() {
    LightestRules lived = Twins.livedIn();
    String before = Checks.look(lived);
    Checks.same("a new one beside it", Checks.look(new LightestRules()), Checks.look(new LightestRules()));
    Checks.due("count(1) of a new one", new LightestRules().count(1), 0);
    Checks.due("mayBe(true) of a new one", new LightestRules().mayBe(true), 511);
    Checks.due("rows() of a new one", new LightestRules().rows(), 100000);
    Checks.same("the first one", Checks.look(lived), before);
  }

  // ---- promise 2: write

  /** "n bytes (1 to 8) of v, the lowest n, the highest of these first, come behind THE TEXT". */
  static void writeTakesEachNumberOfBytes() {
    for (int n = 1; n <= 8; n++) {
      LightestRules x = new LightestRules();
      String text = "R129P34567";
      for (int at = 0; at < text.length(); at += n) {
        int end = Math.min(text.length(), at + n);
        int some = end - at;
        long above = some == 8 ? 0 : Checks.bytes("PR98xyzR") << (8 * some);
        Checks.due("write(" + some + ")", x.write(some, above | Checks.bytes(text.substring(at, end))), end);
      }
      Checks.due("land()", x.land(), 1);
      Checks.due("law", x.count(7), 1);
      Checks.due("weight", x.person(0, 0), 345);
      Checks.due("loaves", x.person(0, 1), 6);
      Checks.due("stones", x.person(0, 2), 7);
      Checks.due("day()", x.day(), 1);
      Checks.due("burnt", x.person(0, 0), 341);
    }
  }

  /** "n bytes (1 to 8)": 1 is the least. */
  static void writeOfNoByteIsRefused() {
    int[] below = {0, -1, -8, Integer.MIN_VALUE};
    for (int n : below) {
      Twins.unchanged("write(" + n + ", P)", Twins::livedIn, x -> x.write(n, 'P'), Checks.OUTSIDE);
    }
    Checks.due("write(1, R)", new LightestRules().write(1, 'R'), 1);
  }

  /** "n bytes (1 to 8)": 8 is the most. */
  static void writeOfNineBytesIsRefused() {
    int[] above = {9, 10, 48, 257, Integer.MAX_VALUE};
    for (int n : above) {
      Twins.unchanged("write(" + n + ", P)", Twins::livedIn, x -> x.write(n, 'P'), Checks.OUTSIDE);
    }
    Checks.due("write(8, ..)", new LightestRules().write(8, Checks.bytes("R000P100")), 8);
  }

  /** All 64 bits of v can come; the upper ones alone are the first byte. */
  static void writeTakesTheHighestBytes() {
    LightestRules x = new LightestRules();
    Checks.due("write(8, R and seven others)", x.write(8, (long) 'R' << 56), 8);
    Checks.due("the first one is an R, the second is 0", x.fault(), 1);
    LightestRules low = new LightestRules();
    Checks.due("write(7, ..)", low.write(7, (long) 'R' << 48 | 0xff00000000000000L), 7);
    Checks.due("the first one is an R", low.fault(), 1);
    LightestRules negative = new LightestRules();
    Checks.due("write(8, -1)", negative.write(8, Long.MIN_VALUE), 8);
    Checks.due("a byte 128 is no R", negative.fault(), 0);
  }

  /** A byte is 0 to 255: 128 more than a sign is another sign. */
  static void writeKeepsTheEighthBit() {
    LightestRules x = new LightestRules();
    x.write(1, 'R' + 128);
    Checks.due("R with the eighth bit", x.fault(), 0);
    LightestRules figure = new LightestRules();
    figure.write(2, Checks.bytes("R0") + 128);
    Checks.due("0 with the eighth bit", figure.fault(), 1);
    LightestRules wide = new LightestRules();
    wide.write(1, 'R' + 256 + (1L << 40));
    Checks.due("R below other bytes", wide.fault(), 1);
  }

  /** "FULL: it would be longer than 48": 48 are fine, by each n. */
  static void writeFillsTheTextJustToItsEnd() {
    for (int n = 1; n <= 8; n++) {
      LightestRules x = filled(48 - n);
      Checks.due("write(" + n + ") to 48", x.write(n, 0), 48);
      Checks.due("count(0)", x.count(0), 48);
    }
  }

  /** "FULL: it would be longer than 48 (nothing comes)": 49 are too many, by each n. */
  static void writeBeyondTheEndIsRefused() {
    for (int n = 1; n <= 8; n++) {
      int bytes = n;
      Twins.unchanged("write(" + n + ") to 49", () -> filled(49 - bytes), x -> x.write(bytes, 0), Checks.FULL);
      Twins.unchanged("write(" + n + ") to 48 and more", () -> filled(48), x -> x.write(bytes, 0), Checks.FULL);
    }
  }

  /** Nothing came: what is short enough still comes. */
  static void writeGoesOnBehindARefusal() {
    LightestRules x = filled(45);
    Checks.due("write(4)", x.write(4, 0), Checks.FULL);
    Checks.due("write(3)", x.write(3, 0), 48);
    Checks.due("write(1)", x.write(1, 0), Checks.FULL);
  }

  /** "of several the first that a call names": OUTSIDE stands ahead of FULL. */
  static void writeTellsOutsideAheadOfFull() {
    Twins.unchanged("write(9) of a full text", () -> filled(48), x -> x.write(9, 0), Checks.OUTSIDE);
    Twins.unchanged("write(0) of a full text", () -> filled(48), x -> x.write(0, 0), Checks.OUTSIDE);
  }

  /** THE TEXT is not THE LAND: bytes alone change nobody. */
  static void writeLeavesTheLand() {
    LightestRules x = Checks.land("R109P30011");
    x.write(6, Checks.bytes("P20000"));
    Checks.due("count(1)", x.count(1), 1);
    Checks.due("count(3)", x.count(3), 0);
    Checks.due("land()", x.land(), 2);
  }

  private static LightestRules filled(int length) {
    LightestRules x = Twins.livedIn();
    while (x.count(0) < length) {
      x.write(Math.min(8, length - x.count(0)), 0x3031323334353637L);
    }
    Checks.due("so long", x.count(0), length);
    return x;
  }

  // ---- promise 3: wipe

  /** "THE TEXT is empty: how long it was", of an empty one. */
  static void wipeOfNothing() {
    Twins.unchanged("wipe()", LightestRules::new, x -> x.wipe(), 0);
  }

  /** Of a full one; then 48 bytes come again. */
  static void wipeOfAFullText() {
    LightestRules x = filled(48);
    Checks.due("wipe()", x.wipe(), 48);
    Checks.due("count(0)", x.count(0), 0);
    Checks.due("wipe()", x.wipe(), 0);
    for (int i = 1; i <= 6; i++) {
      Checks.due("write(8)", x.write(8, 0), 8 * i);
    }
    Checks.due("write(1)", x.write(1, 0), Checks.FULL);
  }

  /** Nothing of what was wiped is left behind a shorter text. */
  static void wipeLeavesNoBytes() {
    LightestRules x = new LightestRules();
    Checks.write(x, FIVE);
    x.wipe();
    Checks.due("fault() of none", x.fault(), 0);
    Checks.write(x, "R000");
    Checks.due("fault() of R000", x.fault(), Checks.NONE);
    Checks.due("land() of R000", x.land(), 0);
  }

  /** THE LAND, its ACTS and all others stay. */
  static void wipeLeavesTheLand() {
    LightestRules x = Twins.livedIn();
    int acts = x.count(3);
    Checks.due("wipe()", x.wipe(), 22);
    Checks.due("people", x.count(1), 3);
    Checks.due("acts", x.count(3), acts);
    Checks.due("the day", x.count(2), 2);
    Checks.due("undo()", x.undo(), acts - 1);
    Checks.due("again(0)", x.again(0), 1);
    Checks.due("weighings", x.count(4), 2);
    Checks.due("searches", x.count(5), 2);
    Checks.due("the line", x.count(6), 2);
    Checks.due("the seed", x.seed(0), -77);
  }

  // ---- promise 4: fault

  /** "its length, if it is only not at its end": of each start of a LAND. */
  static void faultOfEachStart() {
    for (int length = 0; length <= FIVE.length(); length++) {
      boolean whole = length >= 4 && (length - 4) % 6 == 0;
      faultOf(FIVE.substring(0, length), whole ? Checks.NONE : length);
    }
  }

  /** "the place of the first byte by which THE TEXT can be no LAND": each byte at the end of each start. */
  static void faultOfEachLastByte() {
    for (int place = 0; place < FIVE.length(); place++) {
      for (char sign = 0; sign < 256; sign++) {
        boolean whole = place >= 3 && (place - 3) % 6 == 0;
        int due = signsAt(place).indexOf(sign) < 0 ? place : whole ? Checks.NONE : place + 1;
        faultOf(FIVE.substring(0, place) + sign, due);
      }
    }
  }

  /** "whatever came behind it". */
  static void faultStaysWhateverCameBehindIt() {
    for (int place = 0; place < FIVE.length(); place++) {
      String start = FIVE.substring(0, place) + 'x';
      faultOf(start + FIVE.substring(place + 1), place);
      faultOf((start + FIVE.substring(place) + FIVE).substring(0, 48), place);
      faultOf((start + "x".repeat(48)).substring(0, 48), place);
    }
  }

  /** "LAW (0 to 2)". */
  static void faultOfALaw() {
    faultOf("R099", Checks.NONE);
    faultOf("R200", Checks.NONE);
    faultOf("R300", 1);
    faultOf("R/00", 1);
  }

  /** "BURN (0 to 9)". */
  static void faultOfABurn() {
    faultOf("R000", Checks.NONE);
    faultOf("R090", Checks.NONE);
    faultOf("R0:0", 2);
    faultOf("R0/0", 2);
  }

  /** "ILL (0 to 9)". */
  static void faultOfAnIll() {
    faultOf("R009", Checks.NONE);
    faultOf("R00:", 3);
    faultOf("R00/", 3);
  }

  /** "WEIGHT www (three figures, 100 to 999 ounces)". */
  static void faultOfAWeight() {
    faultOf("R000P10000", Checks.NONE);
    faultOf("R000P99900", Checks.NONE);
    faultOf("R000P09900", 5);
    faultOf("R000P00000", 5);
    faultOf("R000P:0000", 5);
    faultOf("R000P1:000", 6);
    faultOf("R000P1/000", 6);
    faultOf("R000P10:00", 7);
    faultOf("R000P10/00", 7);
  }

  /** "b LOAVES (0 to 9)". */
  static void faultOfLoaves() {
    faultOf("R000P10090", Checks.NONE);
    faultOf("R000P100:0", 8);
    faultOf("R000P100/0", 8);
  }

  /** "s STONES (0 to 9)". */
  static void faultOfStones() {
    faultOf("R000P10009", Checks.NONE);
    faultOf("R000P1000:", 9);
    faultOf("R000P1000/", 9);
  }

  /** "then PARTS, none or more": no other sign stands at the start of one. */
  static void faultOfAPart() {
    faultOf("R000", Checks.NONE);
    faultOf("R000p10000", 4);
    faultOf("R000O10000", 4);
    faultOf("R000Q10000", 4);
    faultOf("R0000", 4);
    faultOf("R000P10000R000", 10);
  }

  /** "a PERSON (5 at most)". */
  static void faultOfASixthPerson() {
    faultOf(FIVE, Checks.NONE);
    faultOf(FIVE + "P", 34);
    faultOf(FIVE + "P10000", 34);
    faultOf(FIVE + "P10000P10000P1", 34);
    for (char sign = 0; sign < 256; sign++) {
      faultOf(FIVE + sign, 34);
    }
  }

  /** Of two faults the first one. */
  static void faultIsTheFirstOne() {
    faultOf("x300", 0);
    faultOf("R3x0", 1);
    faultOf("R000P0999:", 5);
    faultOf("R000P1000:P", 9);
  }

  /** A fault goes with THE TEXT, not with THE LAND; to ask changes nothing. */
  static void faultChangesNothing() {
    Twins.unchanged("fault()", Twins::livedIn, x -> x.fault(), Checks.NONE);
    Twins.unchanged("fault()", () -> filled(48), x -> x.fault(), 22);
  }

  private static String signsAt(int place) {
    if (place == 0) {
      return "R";
    }
    if (place == 1) {
      return "012";
    }
    if (place < 4) {
      return FIGURES;
    }
    switch ((place - 4) % 6) {
      case 0: return "P";
      case 1: return FIGURES.substring(1);
      default: return FIGURES;
    }
  }

  private static void faultOf(String text, int due) {
    LightestRules x = new LightestRules();
    Checks.write(x, text);
    Checks.due("fault() of " + text, x.fault(), due);
    Checks.due("land() of " + text, x.land(), due == Checks.NONE ? (text.length() - 4) / 6 : Checks.STATE);
  }

  // ---- promise 5: land

  /** "how many PEOPLE": none, one, .. five. */
  static void landOfEachNumberOfPeople() {
    for (int people = 0; people <= 5; people++) {
      LightestRules x = Checks.land(FIVE.substring(0, 4 + 6 * people));
      Checks.due("count(1)", x.count(1), people);
      Checks.due("the last one", x.person(people - 1, 0), people == 0 ? Checks.UNKNOWN : 100 * people);
      Checks.due("one more", x.person(people, 0), Checks.UNKNOWN);
    }
  }

  /** The least and the most of WEIGHT, LOAVES, STONES. */
  static void landOfLeastAndMost() {
    LightestRules x = Checks.land("R000P10000P99999");
    int[] least = {100, 0, 0};
    int[] most = {999, 9, 9};
    for (int what = 0; what < 3; what++) {
      Checks.due("least of " + what, x.person(0, what), least[what]);
      Checks.due("most of " + what, x.person(1, what), most[what]);
    }
    Checks.due("most at noon", x.person(1, 4), 999 + 72 + 90);
  }

  /** Each figure counts where it stands. */
  static void landOfEachFigure() {
    for (int figure = 0; figure <= 9; figure++) {
      LightestRules x = Checks.land("R000P1" + figure + "000P10" + figure + "00P100" + figure + "0P1000" + figure);
      Checks.due("tens", x.person(0, 0), 100 + 10 * figure);
      Checks.due("ones", x.person(1, 0), 100 + figure);
      Checks.due("loaves", x.person(2, 1), figure);
      Checks.due("stones", x.person(3, 2), figure);
    }
  }

  /** LAW 0 to 2. */
  static void landOfEachLaw() {
    for (int law = 0; law <= 2; law++) {
      Checks.due("count(7)", Checks.land("R" + law + "00P10000").count(7), law);
    }
  }

  /** BURN 0 to 9. */
  static void landOfEachBurn() {
    for (int burn = 0; burn <= 9; burn++) {
      LightestRules x = Checks.land("R0" + burn + "0P10000");
      x.day();
      Checks.due("burnt by " + burn, x.person(0, 0), 100 - 2 * burn);
    }
  }

  /** ILL 0 to 9. */
  static void landOfEachIll() {
    for (int ill = 1; ill <= 9; ill++) {
      LightestRules x = Checks.weighing("R00" + ill, "00", 40 * ill - 1, 40 * ill);
      Checks.due("who is ill by " + ill, x.count(8), 1);
    }
    Checks.due("nobody by 0", Checks.weighing("R000", "00", 1, 2).count(8), 0);
  }

  /** "STATE: a FAULT", of each kind, and nothing changes. */
  static void landOfAFaultIsRefused() {
    String[] bad = {"", "R", "R00", "R300", "R000P", "R000P0999", "R000P1000", "R000P10000x", FIVE + "P", FIVE + "P10000"};
    for (String text : bad) {
      Twins.unchanged("land() of " + text, () -> rewritten(text), x -> x.land(), Checks.STATE);
    }
    Twins.unchanged("land() of 48 bytes", () -> filled(48), x -> x.land(), Checks.STATE);
  }

  private static LightestRules rewritten(String text) {
    LightestRules x = Twins.livedIn();
    Checks.rewrite(x, text);
    return x;
  }

  /** "THE ROW of ACTS is empty". */
  static void landEmptiesTheRow() {
    LightestRules x = Twins.livedIn();
    x.land();
    Checks.due("count(3)", x.count(3), 0);
    Checks.due("undo()", x.undo(), Checks.STATE);
    x.noon();
    Checks.due("undo() of the one since", x.undo(), 0);
  }

  /** A row that went round its 16 is empty too, and fills to 16 anew. */
  static void landEmptiesAFullRow() {
    LightestRules x = Checks.land("R000P90000");
    for (int i = 0; i < 21; i++) {
      x.toil(0, 1);
    }
    x.land();
    Checks.due("undo()", x.undo(), Checks.STATE);
    for (int i = 1; i <= 17; i++) {
      x.toil(0, 1);
      Checks.due("count(3)", x.count(3), Math.min(16, i));
    }
    for (int i = 15; i >= 0; i--) {
      Checks.due("undo()", x.undo(), i);
    }
    Checks.due("weight behind the forgotten one", x.person(0, 0), 895);
  }

  /** "what was kept is gone", in both SLOTS. */
  static void landEmptiesTheSlots() {
    LightestRules x = Twins.livedIn();
    x.land();
    Twins.unchanged("again(0)", () -> livedInAndTold(), y -> y.again(0), Checks.STATE);
    Twins.unchanged("again(1)", () -> livedInAndTold(), y -> y.again(1), Checks.STATE);
    x.keep(1);
    Checks.due("again(0), since only 1 is kept anew", x.again(0), Checks.STATE);
    Checks.due("again(1)", x.again(1), 0);
  }

  private static LightestRules livedInAndTold() {
    LightestRules x = Twins.livedIn();
    x.land();
    return x;
  }

  /** "WEIGHINGS, SEARCHES, THE LINE, THE SEED stay". */
  static void landLeavesWhatWasFoundOut() {
    LightestRules x = Twins.livedIn();
    int heavier = x.mayBe(true);
    int lighter = x.mayBe(false);
    int rows = x.rows();
    x.land();
    Checks.due("count(4)", x.count(4), 2);
    Checks.due("mayBe(true)", x.mayBe(true), heavier);
    Checks.due("mayBe(false)", x.mayBe(false), lighter);
    Checks.due("count(5)", x.count(5), 2);
    Checks.due("rows()", x.rows(), rows);
    Checks.due("count(6)", x.count(6), 2);
    Checks.due("seed(0)", x.seed(0), -77);
    Checks.due("unrule()", x.unrule(), 2);
  }

  /** The text stays and is THE LAND again and again. */
  static void landLeavesTheText() {
    LightestRules x = Twins.livedIn();
    Checks.due("land()", x.land(), 3);
    Checks.due("count(0)", x.count(0), 22);
    Checks.due("land()", x.land(), 3);
    Checks.due("weight", x.person(0, 0), 210);
  }

  /** Told anew: THE DAY is 0, nobody has ruled, nothing was drunk. */
  static void landStartsAnew() {
    LightestRules x = livedInAndTold();
    Checks.due("the day", x.count(2), 0);
    Checks.due("noons", x.count(9), 0);
    for (int person = 0; person < 3; person++) {
      Checks.due("drunk", x.person(person, 3), 0);
      Checks.due("ruled", x.person(person, 6), 0);
    }
    Checks.due("the law of the text", x.count(7), 0);
  }

  /** From five people to none and to five others. */
  static void landOfFewerPeople() {
    LightestRules x = Checks.land("R000P10099P20099P30099P40099P50099");
    Checks.rewrite(x, "R000");
    Checks.due("land()", x.land(), 0);
    Checks.due("person(0, 0)", x.person(0, 0), Checks.UNKNOWN);
    Checks.rewrite(x, FIVE);
    Checks.due("land()", x.land(), 5);
    for (int person = 0; person < 5; person++) {
      Checks.due("no loaves of the old ones", x.person(person, 1), 0);
      Checks.due("no stones of the old ones", x.person(person, 2), 0);
      Checks.due("weight", x.person(person, 0), 100 * (person + 1));
    }
  }

  // ---- promise 6: person

  /** "what = 0 .. 6", and the first on both sides that is not. */
  static void personOfEachWhat() {
    int[] due = {224, 3, 4, 0, 288, 0, 1};
    for (int what = 0; what <= 6; what++) {
      int asked = what;
      Twins.unchanged("person(0, " + what + ")", () -> crownedOne(), x -> x.person(0, asked), due[what]);
    }
    int[] beside = {-1, 7, Integer.MIN_VALUE, Integer.MAX_VALUE};
    for (int what : beside) {
      Twins.unchanged("person(0, " + what + ")", () -> crownedOne(), x -> x.person(0, what), Checks.OUTSIDE);
    }
  }

  private static LightestRules crownedOne() {
    LightestRules x = Checks.land("R005P22434P50000");
    x.noon();
    return x;
  }

  /** "UNKNOWN": the last PERSON there is, the first there is not, on both sides. */
  static void personThatIsNotThere() {
    for (int people = 0; people <= 5; people++) {
      String text = FIVE.substring(0, 4 + 6 * people);
      int[] beside = {-1, people, 5, 6, Integer.MIN_VALUE, Integer.MAX_VALUE};
      for (int who : beside) {
        boolean there = who >= 0 && who < people;
        for (int what = 0; what <= 6 && !there; what++) {
          Checks.due("person(" + who + ", " + what + ")", Checks.land(text).person(who, what), Checks.UNKNOWN);
        }
      }
      for (int who = 0; who < people; who++) {
        Checks.due("person(" + who + ", 0)", Checks.land(text).person(who, 0), 100 * (who + 1));
      }
    }
  }

  /** UNKNOWN stands ahead of OUTSIDE. */
  static void personTellsUnknownAheadOfOutside() {
    Twins.unchanged("person(3, 7)", Twins::livedIn, x -> x.person(3, 7), Checks.UNKNOWN);
    Twins.unchanged("person(-1, -1)", Twins::livedIn, x -> x.person(-1, -1), Checks.UNKNOWN);
    Twins.unchanged("person(2, 7)", Twins::livedIn, x -> x.person(2, 7), Checks.OUTSIDE);
  }

  /** "what it drank, in ounces (3: they are in its WEIGHT)": none, 3, .. 90. */
  static void personThatDrank() {
    LightestRules x = Checks.land("R000P10011");
    for (int drinks = 1; drinks <= 30; drinks++) {
      x.drink(0, 1);
      Checks.due("drunk", x.person(0, 3), 3 * drinks);
      Checks.due("weight", x.person(0, 0), 100 + 3 * drinks);
      Checks.due("at noon", x.person(0, 4), 118 + 3 * drinks);
    }
    x.day();
    Checks.due("drunk", x.person(0, 3), 0);
  }

  /** "what it weighs AT NOON": "its WEIGHT, 8 for each LOAF, 10 for each STONE". */
  static void personAtNoon() {
    for (int loaves = 0; loaves <= 9; loaves++) {
      for (int stones = 0; stones <= 9; stones++) {
        LightestRules x = Checks.land("R000P100" + loaves + stones);
        Checks.due("at noon", x.person(0, 4), 100 + 8 * loaves + 10 * stones);
      }
    }
  }

  /** "One is ILL, if its WEIGHT alone is below 40 times ILL": pockets do not heal, at the bound it is not ILL. */
  static void personThatIsIll() {
    for (int ill = 1; ill <= 9; ill++) {
      LightestRules x = Checks.weighing("R00" + ill, "99", 40 * ill - 1, 40 * ill, 40 * ill + 1);
      Checks.due("below", x.person(0, 5), 1);
      Checks.due("at the bound", x.person(1, 5), 0);
      Checks.due("above", x.person(2, 5), 0);
    }
    LightestRules none = Checks.weighing("R000", "00", 1);
    Checks.due("one ounce, ILL 0", none.person(0, 5), 0);
    LightestRules least = Checks.weighing("R001", "00", 1);
    Checks.due("one ounce, ILL 1", least.person(0, 5), 1);
  }

  /** Eating and drinking heal, toil makes ILL, just at the bound. */
  static void personFallsIllAndHeals() {
    LightestRules x = Checks.land("R005P20010");
    x.toil(0, 1);
    Checks.due("195", x.person(0, 5), 1);
    x.drink(0, 1);
    Checks.due("198", x.person(0, 5), 1);
    x.drink(0, 1);
    Checks.due("201", x.person(0, 5), 0);
    x.day();
    Checks.due("195 again", x.person(0, 5), 1);
    x.eat(0, 1);
    Checks.due("203", x.person(0, 5), 0);
  }

  /** "how often it ruled": never, once, .. */
  static void personThatRuled() {
    LightestRules x = Checks.land("R000P10000P20000");
    for (int noons = 0; noons <= 40; noons++) {
      Checks.due("ruled", x.person(0, 6), noons);
      Checks.due("the other one", x.person(1, 6), 0);
      x.noon();
    }
  }

  // ---- promise 7: law

  /** "The LAW is another one: what it was", from each to each. */
  static void lawFromEachToEach() {
    for (int from = 0; from <= 2; from++) {
      for (int to = 0; to <= 2; to++) {
        LightestRules x = Checks.land("R" + from + "00P10000P20000");
        Checks.due("law(" + to + ")", x.law(to), from);
        Checks.due("count(7)", x.count(7), to);
        Checks.due("crown()", x.crown(), to == 1 ? 1 : 0);
      }
    }
  }

  /** LAW 0 to 2: the first on both sides that is not. */
  static void lawBesideThem() {
    int[] beside = {-1, 3, Integer.MIN_VALUE, Integer.MAX_VALUE};
    for (int law : beside) {
      Twins.unchanged("law(" + law + ")", Twins::livedIn, x -> x.law(law), Checks.OUTSIDE);
      Twins.unchanged("law(" + law + ") of nobody", LightestRules::new, x -> x.law(law), Checks.OUTSIDE);
    }
  }

  /** Where there is nobody there is a LAW all the same. */
  static void lawOfNobody() {
    LightestRules x = new LightestRules();
    Checks.due("law(2)", x.law(2), 0);
    Checks.due("law(1)", x.law(1), 2);
    Checks.due("crown()", x.crown(), Checks.NONE);
  }

  /** It is no ACT: undone ones leave it, and it is not undone. */
  static void lawIsNoAct() {
    LightestRules x = Checks.land("R000P10000P20000");
    x.law(1);
    Checks.due("count(3)", x.count(3), 0);
    Checks.due("undo()", x.undo(), Checks.STATE);
    x.noon();
    x.law(2);
    Checks.due("undo()", x.undo(), 0);
    Checks.due("count(7)", x.count(7), 2);
  }
}
