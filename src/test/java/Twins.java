import java.util.function.Supplier;
import java.util.function.ToLongFunction;

/**
 * Whether a call changes nothing: of two objects made alike, one gets the call, and then both must
 * answer alike whatever is asked. What is asked changes the objects, so each question gets new ones.
 */
final class Twins {
  private static final int QUESTIONS = 8;

  private Twins() {
  }

  /** A call that is refused, or only asks: what it answers, and that all is as before. */
  static void unchanged(String call, Supplier<LightestRules> made, ToLongFunction<LightestRules> asked, long due) {
    for (int question = 0; question < QUESTIONS; question++) {
      LightestRules one = made.get();
      Checks.due(call, asked.applyAsLong(one), due);
      Checks.same("behind " + call + ", question " + question, answers(one, question), answers(made.get(), question));
    }
  }

  private static String answers(LightestRules x, int question) {
    switch (question) {
      case 0: return Checks.look(x);
      case 1: return foundOut(x);
      case 2: return undone(x, 0, 3);
      case 3: return undone(x, 3, 4) + x.person(0, 6) + x.person(1, 6);
      case 4: return "" + x.again(0) + Checks.look(x);
      case 5: return "" + x.again(1) + Checks.look(x);
      case 6: return "" + x.write(1, 'P') + x.fault() + x.day() + Checks.look(x);
      default: return x.land() + Checks.look(x) + x.day() + x.person(0, 0);
    }
  }

  private static String foundOut(LightestRules x) {
    StringBuilder seen = new StringBuilder();
    seen.append(x.mayBe(true)).append(' ').append(x.mayBe(false)).append(' ').append(x.rows());
    for (int one = 0; one < 5; one++) {
      seen.append(' ').append(x.stones(one, false)).append(' ').append(x.stones(one, true));
    }
    seen.append(' ').append(x.line()).append(' ').append(x.seed(0));
    return seen.toString();
  }

  private static String undone(LightestRules x, int from, int to) {
    StringBuilder seen = new StringBuilder();
    int left = 0;
    while (left >= 0) {
      left = x.undo();
      seen.append(left).append(':').append(x.count(2)).append(':').append(x.count(9));
      for (int person = 0; person < x.count(1); person++) {
        for (int what = from; what < to; what++) {
          seen.append(' ').append(x.person(person, what));
        }
      }
    }
    return seen.toString();
  }

  /** Three people with acts, slots, weighings, searches, a line and a seed, all of them told apart. */
  static LightestRules livedIn() {
    return livedIn("R015P21043P20934P26057");
  }

  /** At least two people, with bread and stones for each. */
  static LightestRules livedIn(String text) {
    LightestRules x = Checks.land(text);
    x.noon();
    x.day();
    x.keep(0);
    x.drink(0, 4);
    x.eat(1, 1);
    x.keep(1);
    x.hand(1, 0, true);
    x.hand(0, 1, false);
    x.day();
    x.toil(0, 2);
    x.drink(1, 3);
    x.law(1);
    x.noon();
    x.weigh(7, 56, 1);
    x.weigh(9, 18, 1);
    x.search(3, 12);
    x.search(6, 5);
    x.ruled(1);
    x.ruled(0);
    x.seed(-77);
    return x;
  }
}
