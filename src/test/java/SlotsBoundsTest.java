/** Promises 31 to 33 at their bounds, each case by itself. */
public final class SlotsBoundsTest {
  private static final int[] NO_SLOT = {-1, 2, 3, 31, 32, 33, -32, Integer.MIN_VALUE, Integer.MAX_VALUE};

  public static void main(String[] args) throws IllegalAccessException {
    Cases.runAll(SlotsBoundsTest.class);
  }

  // ---- promise 31: keep

  /** "They are kept: THE DAY": day 0 and later, in each of both. */
  static void keepTellsTheDay() {
    for (int slot = 0; slot <= 1; slot++) {
      LightestRules x = Checks.land("R000P20000");
      for (int day = 0; day <= 20; day++) {
        Checks.due("keep(" + slot + ")", x.keep(slot), day);
        x.day();
      }
    }
  }

  /** "SLOTS 0 to 1", "UNKNOWN": the first on both sides that is none. */
  static void keepInNoSlot() {
    for (int slot : NO_SLOT) {
      Twins.unchanged("keep(" + slot + ")", Twins::livedIn, x -> x.keep(slot), Checks.UNKNOWN);
      Twins.unchanged("keep(" + slot + "), nothing is kept", () -> Checks.land("R015P20011"),
          x -> x.keep(slot), Checks.UNKNOWN);
    }
  }

  /** Nobody is kept too. */
  static void keepOfNobody() {
    LightestRules x = new LightestRules();
    Checks.due("keep(1)", x.keep(1), 0);
    x.day();
    Checks.due("again(1)", x.again(1), 0);
    Checks.due("again(0)", x.again(0), Checks.STATE);
  }

  /** To keep is no ACT and changes nothing else. */
  static void keepChangesTheSlotAlone() {
    LightestRules x = Twins.livedIn();
    String before = Checks.look(x);
    Checks.due("keep(0)", x.keep(0), 2);
    Checks.same("all else", Checks.look(x), before);
    Checks.due("undo()", x.undo(), 9);
    Checks.due("the other slot", x.again(1), 1);
  }

  /** What is kept anew takes the place of what was kept. */
  static void keepTwice() {
    LightestRules x = Checks.land("R010P20000");
    x.keep(0);
    x.day();
    x.keep(0);
    x.day();
    Checks.due("again(0)", x.again(0), 1);
    Checks.due("weight", x.person(0, 0), 198);
  }

  /** Later ACTS and undone ones leave what was kept. */
  static void keepStandsBehindActs() {
    LightestRules x = Checks.land("R010P20011P30011");
    x.day();
    x.keep(0);
    x.undo();
    for (int i = 0; i < 20; i++) {
      x.toil(0, 1);
    }
    Checks.due("again(0)", x.again(0), 1);
    Checks.due("weight", x.person(0, 0), 198);
  }

  // ---- promise 32: again

  /** "UNKNOWN", with and without something kept. */
  static void againOfNoSlot() {
    for (int slot : NO_SLOT) {
      Twins.unchanged("again(" + slot + ")", Twins::livedIn, x -> x.again(slot), Checks.UNKNOWN);
      Twins.unchanged("again(" + slot + "), nothing is kept", () -> Checks.land("R015P20011"),
          x -> x.again(slot), Checks.UNKNOWN);
    }
  }

  /** "STATE: none were kept": at first, in the other slot, behind land(). */
  static void againOfNothing() {
    for (int slot = 0; slot <= 1; slot++) {
      int asked = slot;
      Twins.unchanged("again() at first", LightestRules::new, x -> x.again(asked), Checks.STATE);
      Twins.unchanged("again() of the other", () -> keptIn(1 - asked), x -> x.again(asked), Checks.STATE);
      Twins.unchanged("again() behind land()", () -> keptAndTold(), x -> x.again(asked), Checks.STATE);
    }
  }

  private static LightestRules keptIn(int slot) {
    LightestRules x = Checks.land("R015P20011P21022");
    x.day();
    x.keep(slot);
    x.toil(0, 3);
    return x;
  }

  private static LightestRules keptAndTold() {
    LightestRules x = Twins.livedIn();
    x.land();
    x.day();
    return x;
  }

  /** A land that is refused leaves what was kept. */
  static void againBehindARefusedLand() {
    LightestRules x = keptIn(1);
    x.write(1, 'P');
    Checks.due("land()", x.land(), Checks.STATE);
    Checks.due("again(1)", x.again(1), 1);
  }

  /** "keep PEOPLE, THE DAY, who ruled how often": all of five, water too. */
  static void againOfFive() {
    for (int slot = 0; slot <= 1; slot++) {
      LightestRules x = Checks.land("R035P20012P20134P20256P20378P20490");
      x.day();
      for (int person = 0; person < 5; person++) {
        x.drink(person, person + 1);
        x.toil(4 - person, 2);
      }
      x.noon();
      x.noon();
      String kept = people(x);
      Checks.due("keep", x.keep(slot), 1);
      x.day();
      x.noon();
      for (int person = 0; person < 5; person++) {
        x.hand(person, (person + 1) % 5, true);
        x.hand(person, (person + 1) % 5, false);
        x.eat(person, 1);
        x.drink(person, 9);
      }
      Checks.due("again", x.again(slot), 1);
      Checks.same("as they were kept", people(x), kept);
      x.day();
      Checks.due("again once more", x.again(slot), 1);
      Checks.same("as they were kept", people(x), kept);
    }
  }

  private static String people(LightestRules x) {
    StringBuilder seen = new StringBuilder().append(x.count(2)).append('|').append(x.count(9));
    for (int person = 0; person < 5; person++) {
      for (int what = 0; what < 7; what++) {
        seen.append(' ').append(x.person(person, what));
      }
    }
    return seen.toString();
  }

  /** "(THE ROW of ACTS is empty when one goes on)": a row of few, of 16, that went round. */
  static void againEmptiesTheRow() {
    int[] acts = {0, 1, 16, 17, 25};
    for (int n : acts) {
      LightestRules x = Checks.land("R000P90000");
      x.keep(0);
      for (int i = 0; i < n; i++) {
        x.toil(0, 1);
      }
      Checks.due("again(0)", x.again(0), 0);
      Checks.due("count(3)", x.count(3), 0);
      Checks.due("undo()", x.undo(), Checks.STATE);
      for (int i = 1; i <= 17; i++) {
        x.toil(0, 1);
        Checks.due("count(3)", x.count(3), Math.min(i, 16));
      }
      for (int i = 0; i < 16; i++) {
        x.undo();
      }
      Checks.due("undo()", x.undo(), Checks.STATE);
      Checks.due("weight", x.person(0, 0), 895);
    }
  }

  /** Both SLOTS are apart. */
  static void againOfBoth() {
    LightestRules x = Checks.land("R010P20000");
    x.keep(0);
    x.day();
    x.keep(1);
    x.day();
    Checks.due("again(0)", x.again(0), 0);
    Checks.due("weight", x.person(0, 0), 200);
    Checks.due("again(1)", x.again(1), 1);
    Checks.due("weight", x.person(0, 0), 198);
    Checks.due("again(0)", x.again(0), 0);
    Checks.due("weight", x.person(0, 0), 200);
  }

  /** THE TEXT, LAW, WEIGHINGS, SEARCHES, THE LINE, THE SEED are not kept. */
  static void againLeavesTheRest() {
    LightestRules x = Checks.land("R010P20000P20000");
    x.keep(0);
    x.law(2);
    x.write(1, 'P');
    x.weigh(1, 2, 1);
    x.search(1, 3);
    x.ruled(1);
    x.seed(6);
    x.again(0);
    int[] due = {17, 2, 0, 0, 1, 1, 1, 2, 0, 0};
    for (int what = 0; what < 10; what++) {
      Checks.due("count(" + what + ")", x.count(what), due[what]);
    }
    Checks.due("the seed", x.seed(0), 6);
  }

  /** One goes on from there: days burn as THE LAND tells, one is ILL as it tells. */
  static void againGoesOn() {
    LightestRules x = Checks.land("R045P20000");
    x.keep(1);
    x.toil(0, 9);
    Checks.due("again(1)", x.again(1), 0);
    Checks.due("who is ill", x.count(8), 0);
    Checks.due("day()", x.day(), 1);
    Checks.due("weight", x.person(0, 0), 192);
    Checks.due("who is ill", x.count(8), 1);
    Checks.due("undo()", x.undo(), 0);
    Checks.due("weight", x.person(0, 0), 200);
  }

  // ---- promise 33: count

  /** "0 .. 9", and the first on both sides that is not. */
  static void countOfEachWhat() {
    int[] due = {22, 3, 2, 10, 2, 2, 2, 1, 1, 2};
    for (int what = 0; what <= 9; what++) {
      int asked = what;
      Twins.unchanged("count(" + what + ")", Twins::livedIn, x -> x.count(asked), due[what]);
    }
    int[] beside = {-1, 10, Integer.MIN_VALUE, Integer.MAX_VALUE};
    for (int what : beside) {
      Twins.unchanged("count(" + what + ")", Twins::livedIn, x -> x.count(what), Checks.OUTSIDE);
      Twins.unchanged("count(" + what + ") of nobody", LightestRules::new, x -> x.count(what), Checks.OUTSIDE);
    }
  }

  /** "0 bytes of THE TEXT": 0 to 48. */
  static void countOfBytes() {
    LightestRules x = new LightestRules();
    for (int bytes = 0; bytes <= 48; bytes++) {
      Checks.due("count(0)", x.count(0), bytes);
      x.write(1, 'R');
    }
    Checks.due("count(0)", x.count(0), 48);
  }

  /** "1 PEOPLE": 0 to 5. */
  static void countOfPeople() {
    for (int people = 0; people <= 5; people++) {
      Checks.due("count(1)", Checks.land("R000" + "P20000".repeat(people)).count(1), people);
    }
  }

  /** "2 THE DAY": it goes back with what is undone and kept. */
  static void countOfDays() {
    LightestRules x = Checks.land("R000P20000");
    x.day();
    x.keep(0);
    x.day();
    x.day();
    Checks.due("count(2)", x.count(2), 3);
    x.undo();
    Checks.due("count(2)", x.count(2), 2);
    x.again(0);
    Checks.due("count(2)", x.count(2), 1);
  }

  /** "3 ACTS in the row": 16 at most. */
  static void countOfActs() {
    LightestRules x = Checks.land("R000P20000");
    for (int acts = 0; acts <= 20; acts++) {
      Checks.due("count(3)", x.count(3), Math.min(16, acts));
      x.noon();
    }
    x.undo();
    Checks.due("count(3)", x.count(3), 15);
  }

  /** "4 WEIGHINGS": 10 at most. */
  static void countOfWeighings() {
    LightestRules x = new LightestRules();
    for (int n = 0; n <= 12; n++) {
      Checks.due("count(4)", x.count(4), Math.min(10, n));
      x.weigh(1, 2, 0);
    }
  }

  /** "5 SEARCHES": 8 at most. */
  static void countOfSearches() {
    LightestRules x = new LightestRules();
    for (int n = 0; n <= 10; n++) {
      Checks.due("count(5)", x.count(5), Math.min(8, n));
      x.search(1, 0);
    }
  }

  /** "6 months of THE LINE": 4 at most. */
  static void countOfMonths() {
    LightestRules x = Checks.land("R000P20000");
    for (int n = 0; n <= 6; n++) {
      Checks.due("count(6)", x.count(6), Math.min(4, n));
      x.ruled(0);
    }
  }

  /** "7 the LAW": by land() and by law(). */
  static void countOfTheLaw() {
    for (int law = 0; law <= 2; law++) {
      LightestRules x = Checks.land("R" + law + "00");
      Checks.due("count(7)", x.count(7), law);
      x.law(2 - law);
      Checks.due("count(7)", x.count(7), 2 - law);
      x.law(3);
      Checks.due("count(7)", x.count(7), 2 - law);
    }
  }

  /** "8 who is ILL (bits)": none, each by itself, all five. */
  static void countOfTheIll() {
    for (int bits = 0; bits < 32; bits++) {
      StringBuilder text = new StringBuilder("R005");
      for (int person = 0; person < 5; person++) {
        text.append((bits >> person & 1) == 1 ? "P19999" : "P20000");
      }
      Checks.due("count(8) of " + text, Checks.land(text.toString()).count(8), bits);
    }
    Checks.due("ILL 0", Checks.weighing("R000", "00", 1, 1).count(8), 0);
  }

  /** "9 NOONS at which somebody was crowned": not those at which none was. */
  static void countOfNoons() {
    LightestRules x = Checks.land("R005P19900P20000");
    x.noon();
    x.noon();
    Checks.due("count(9)", x.count(9), 2);
    x.law(2);
    x.noon();
    Checks.due("count(9)", x.count(9), 3);
    x.toil(1, 1);
    Checks.due("noon() of none", x.noon(), Checks.NONE);
    Checks.due("count(9)", x.count(9), 3);
    x.undo();
    Checks.due("an undone one of none", x.count(9), 3);
    x.undo();
    x.undo();
    Checks.due("an undone one", x.count(9), 2);
  }

  /** NOONS that the row forgot are counted all the same. */
  static void countOfForgottenNoons() {
    LightestRules x = Checks.land("R000P20000");
    for (int noon = 1; noon <= 30; noon++) {
      x.noon();
      Checks.due("count(9)", x.count(9), noon);
    }
    for (int i = 0; i < 17; i++) {
      x.undo();
    }
    Checks.due("count(9)", x.count(9), 14);
  }
}
