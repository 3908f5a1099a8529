/** Promises 1 to 7: the text, the land, what is known of a person, the law. */
public final class LandTest {
  public static void main(String[] args) {
    newObject();
    write();
    wipe();
    fault();
    faultAtEachPlace();
    land();
    landAnew();
    landLeaves();
    person();
    personRefused();
    law();
    Checks.end("LandTest");
  }

  private static void newObject() {
    LightestRules x = new LightestRules();
    for (int what = 0; what < 10; what++) {
      Checks.due("new, count(" + what + ")", x.count(what), 0);
    }
    for (int person = 0; person < 5; person++) {
      Checks.due("new, person(" + person + ", 0)", x.person(person, 0), Checks.UNKNOWN);
    }
    Checks.due("new, fault()", x.fault(), 0);
    Checks.due("new, crown()", x.crown(), Checks.NONE);
    Checks.due("new, undo()", x.undo(), Checks.STATE);
    Checks.due("new, again(0)", x.again(0), Checks.STATE);
    Checks.due("new, again(1)", x.again(1), Checks.STATE);
    Checks.due("new, mayBe(true)", x.mayBe(true), 511);
    Checks.due("new, mayBe(false)", x.mayBe(false), 511);
    Checks.due("new, rows()", x.rows(), 100000);
    Checks.due("new, line()", x.line(), Checks.STATE);
    Checks.due("new, seed(7)", x.seed(7), 0);
    LightestRules burnt = new LightestRules();
    burnt.seed(9);
    Checks.due("another object has its own seed", new LightestRules().seed(0), 0);
  }

  private static void write() {
    LightestRules x = new LightestRules();
    Checks.due("write(0, R)", x.write(0, 'R'), Checks.OUTSIDE);
    Checks.due("write(9, R)", x.write(9, 'R'), Checks.OUTSIDE);
    for (int wild : Checks.WILD) {
      Checks.due("write(" + wild + ", R)", x.write(wild, 'R'), Checks.OUTSIDE);
    }
    Checks.due("count(0) behind refusals", x.count(0), 0);
    Checks.due("write(1) takes the lowest byte", x.write(1, Checks.bytes("XYZR")), 1);
    Checks.due("write(3), the highest of the lowest first", x.write(3, Checks.bytes("zzzzz123")), 4);
    Checks.due("fault() of R123", x.fault(), Checks.NONE);
    Checks.due("land() of R123", x.land(), 0);
    Checks.due("its law", x.count(7), 1);
    LightestRules negative = new LightestRules();
    Checks.due("write(8, -1)", negative.write(8, -1L), 8);
    Checks.due("a byte 255 is no R", negative.fault(), 0);
    LightestRules upper = new LightestRules();
    Checks.due("write(8) of eight bytes", upper.write(8, Checks.bytes("R210P123")), 8);
    Checks.due("fault() of R210P123", upper.fault(), 8);
    LightestRules wide = new LightestRules();
    wide.write(1, 'R' + 256L);
    Checks.due("only the byte counts", wide.fault(), 1);
    writeToTheBrim();
  }

  private static void writeToTheBrim() {
    LightestRules x = new LightestRules();
    for (int i = 1; i <= 5; i++) {
      Checks.due("write(8) nr " + i, x.write(8, 0), 8 * i);
    }
    Checks.due("write(7) to 47", x.write(7, 0), 47);
    Checks.due("write(2) beyond 48", x.write(2, 0), Checks.FULL);
    Checks.due("nothing came", x.count(0), 47);
    Checks.due("write(9): OUTSIDE ahead of FULL", x.write(9, 0), Checks.OUTSIDE);
    Checks.due("write(1) to 48", x.write(1, 0), 48);
    Checks.due("write(1) beyond 48", x.write(1, 0), Checks.FULL);
    Checks.due("write(8) beyond 48", x.write(8, 0), Checks.FULL);
    Checks.due("count(0)", x.count(0), 48);
  }

  private static void wipe() {
    LightestRules x = new LightestRules();
    Checks.due("wipe() of none", x.wipe(), 0);
    Checks.write(x, "R000P10000");
    Checks.due("wipe()", x.wipe(), 10);
    Checks.due("count(0)", x.count(0), 0);
    Checks.due("wipe() again", x.wipe(), 0);
    Checks.write(x, "R00");
    Checks.due("fault() of what came since", x.fault(), 3);
    LightestRules told = Checks.land("R000P12345");
    Checks.due("wipe() of a land's text", told.wipe(), 10);
    Checks.due("the land stays", told.person(0, 0), 123);
  }

  private static void fault() {
    faultOf("", 0);
    faultOf("R", 1);
    faultOf("r", 0);
    faultOf("P10000", 0);
    faultOf("R0", 2);
    faultOf("R3", 1);
    faultOf("R2", 2);
    faultOf("R299", Checks.NONE);
    faultOf("R29:", 3);
    faultOf("R2/9", 2);
    faultOf("R000R", 4);
    faultOf("R000P", 5);
    faultOf("R000P0", 5);
    faultOf("R000P099", 5);
    faultOf("R000P1", 6);
    faultOf("R000P10", 7);
    faultOf("R000P100", 8);
    faultOf("R000P1009", 9);
    faultOf("R000P10099", Checks.NONE);
    faultOf("R000P99999", Checks.NONE);
    faultOf("R000P999990", 10);
    faultOf("R000P99999P", 11);
    faultOf("R000P99999P9x", 12);
    faultOf("X000Px", 0);
    String five = "R000P10000P10000P10000P10000P10000";
    faultOf(five, Checks.NONE);
    faultOf(five + "P", 34);
    faultOf(five + "P10000", 34);
    faultOf(five + "0", 34);
    faultOf(five + "P10000P1000000", 34);
    faultOf(five.substring(0, 33) + "x", 33);
  }

  private static void faultOf(String text, int due) {
    LightestRules x = new LightestRules();
    Checks.write(x, text);
    Checks.due("fault() of " + text, x.fault(), due);
    Checks.due("fault() of " + text + " again", x.fault(), due);
    Checks.due("land() of " + text, x.land(), due == Checks.NONE ? (text.length() - 4) / 6 : Checks.STATE);
  }

  private static void faultAtEachPlace() {
    String good = "R000P10000P10000P10000P10000P10000";
    for (int place = 0; place < good.length(); place++) {
      for (char sign = 0; sign < 256; sign++) {
        boolean fits = fits(place, sign);
        String text = good.substring(0, place) + sign + good.substring(place + 1);
        LightestRules x = new LightestRules();
        Checks.write(x, text);
        Checks.due("fault() with " + (int) sign + " at " + place, x.fault(), fits ? Checks.NONE : place);
      }
    }
  }

  private static boolean fits(int place, char sign) {
    String kinds = "RLff" + "PHffff".repeat(5);
    switch (kinds.charAt(place)) {
      case 'R': return sign == 'R';
      case 'L': return "012".indexOf(sign) >= 0;
      case 'P': return sign == 'P';
      case 'H': return "123456789".indexOf(sign) >= 0;
      default: return "0123456789".indexOf(sign) >= 0;
    }
  }

  private static void land() {
    LightestRules x = new LightestRules();
    Checks.write(x, "R123P12345P67890");
    Checks.due("land()", x.land(), 2);
    Checks.due("the text stays", x.count(0), 16);
    Checks.due("count(1)", x.count(1), 2);
    Checks.due("count(7)", x.count(7), 1);
    Checks.due("person(0, 0)", x.person(0, 0), 123);
    Checks.due("person(0, 1)", x.person(0, 1), 4);
    Checks.due("person(0, 2)", x.person(0, 2), 5);
    Checks.due("person(1, 0)", x.person(1, 0), 678);
    Checks.due("person(1, 1)", x.person(1, 1), 9);
    Checks.due("person(1, 2)", x.person(1, 2), 0);
    Checks.due("ill 3 is below 120", x.count(8), 0);
    x.toil(0, 1);
    Checks.due("118 is ill", x.count(8), 1);
    x.day();
    Checks.due("burn 2 is 4 ounces", x.person(1, 0), 674);
    Checks.due("land() of nobody", Checks.land("R299").count(1), 0);
  }

  /** A land that is told anew: its day is 0, nobody ruled, no acts, nothing kept. */
  private static void landAnew() {
    LightestRules x = Checks.land("R010P20011P30022");
    x.day();
    x.noon();
    x.drink(0, 3);
    x.keep(0);
    x.keep(1);
    Checks.due("land() once more", x.land(), 2);
    Checks.due("its day", x.count(2), 0);
    Checks.due("its acts", x.count(3), 0);
    Checks.due("its noons", x.count(9), 0);
    Checks.due("who ruled", x.person(0, 6), 0);
    Checks.due("what was drunk", x.person(0, 3), 0);
    Checks.due("its weight", x.person(0, 0), 200);
    Checks.due("again(0)", x.again(0), Checks.STATE);
    Checks.due("again(1)", x.again(1), Checks.STATE);
    Checks.due("undo()", x.undo(), Checks.STATE);
    Checks.rewrite(x, "R000P30000");
    Checks.due("land() of one", x.land(), 1);
    Checks.due("the second one is gone", x.person(1, 0), Checks.UNKNOWN);
    Checks.rewrite(x, "R000P30000P40000");
    x.land();
    Checks.due("a new second one ruled never", x.person(1, 6), 0);
  }

  /** What a land leaves as it is, and that a refused one changes nothing. */
  private static void landLeaves() {
    LightestRules x = Checks.land("R110P20011P30022");
    x.weigh(1, 2, 1);
    x.search(3, 4);
    x.ruled(1);
    x.seed(77);
    x.day();
    x.keep(0);
    String before = Checks.look(x);
    x.write(1, 'x');
    Checks.due("land() with a fault", x.land(), Checks.STATE);
    x.wipe();
    Checks.due("land() of an empty text", x.land(), Checks.STATE);
    Checks.write(x, "R110P20011P30022");
    Checks.same("behind a refused land", Checks.look(x), before);
    Checks.due("what was kept stays", x.again(0), 1);
    Checks.due("land()", x.land(), 2);
    Checks.due("weighings stay", x.count(4), 1);
    Checks.due("searches stay", x.count(5), 1);
    Checks.due("the line stays", x.count(6), 1);
    Checks.due("the seed stays", x.seed(0), 77);
    Checks.due("mayBe", x.mayBe(true), 1);
  }

  private static void person() {
    LightestRules x = Checks.land("R003P12032P11909");
    Checks.due("weight", x.person(0, 0), 120);
    Checks.due("at noon", x.person(0, 4), 120 + 3 * 8 + 2 * 10);
    Checks.due("not ill at 120", x.person(0, 5), 0);
    Checks.due("ill at 119, whatever the stones", x.person(1, 5), 1);
    Checks.due("at noon", x.person(1, 4), 209);
    x.drink(1, 2);
    Checks.due("what it drank", x.person(1, 3), 6);
    Checks.due("that is in its weight", x.person(1, 0), 125);
    Checks.due("and heals", x.person(1, 5), 0);
    Checks.due("and weighs at noon", x.person(1, 4), 215);
    x.noon();
    Checks.due("ruled", x.person(0, 6), 1);
    Checks.due("did not rule", x.person(1, 6), 0);
    Checks.due("all 0 of ILL 0", Checks.land("R000P10000").person(0, 5), 0);
  }

  private static void personRefused() {
    LightestRules x = Checks.land("R003P12032P11909");
    for (int wild : Checks.WILD) {
      Checks.due("person(" + wild + ", 0)", x.person(wild, 0), Checks.UNKNOWN);
      Checks.due("person(0, " + wild + ")", x.person(0, wild), Checks.OUTSIDE);
    }
    Checks.due("person(2, 0)", x.person(2, 0), Checks.UNKNOWN);
    Checks.due("person(0, 7)", x.person(0, 7), Checks.OUTSIDE);
    Checks.due("person(2, 7): UNKNOWN first", x.person(2, 7), Checks.UNKNOWN);
  }

  private static void law() {
    LightestRules x = Checks.land("R200P20000P30000");
    Checks.due("law(1)", x.law(1), 2);
    Checks.due("count(7)", x.count(7), 1);
    Checks.due("crown() by law 1", x.crown(), 1);
    Checks.due("law(3)", x.law(3), Checks.OUTSIDE);
    for (int wild : Checks.WILD) {
      Checks.due("law(" + wild + ")", x.law(wild), Checks.OUTSIDE);
    }
    Checks.due("law(0)", x.law(0), 1);
    Checks.due("law(0) again", x.law(0), 0);
    Checks.due("crown() by law 0", x.crown(), 0);
    Checks.due("a law is no act", x.count(3), 0);
    x.noon();
    x.law(2);
    x.undo();
    Checks.due("an undone act leaves the law", x.count(7), 2);
    x.land();
    Checks.due("a land brings its law", x.count(7), 2);
    x.law(1);
    x.land();
    Checks.due("and brings it again", x.count(7), 2);
  }
}
