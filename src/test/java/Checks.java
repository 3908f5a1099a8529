/** What all tests of the project share: answers that are due, and lands told as text. */
final class Checks {
  static final int UNKNOWN = LightestRules.UNKNOWN;
  static final int OUTSIDE = LightestRules.OUTSIDE;
  static final int STATE = LightestRules.STATE;
  static final int FULL = LightestRules.FULL;
  static final int NONE = LightestRules.NONE;
  /** Numbers that no call takes as a person, slot, law or amount. */
  static final int[] WILD = {Integer.MIN_VALUE, -1000, -9, -1, 600, 1 << 20, Integer.MAX_VALUE};

  private static int asked = 0;
  private static int wrong = 0;

  private Checks() {
  }

  static void due(String call, long got, long want) {
    asked++;
    if (got != want) {
      wrong++;
      System.out.println(call + " answered " + got + ", due is " + want);
    }
  }

  static int wrong() {
    return wrong;
  }

  static void end(String test) {
    System.out.println(test + ": " + asked + " answers looked at, " + wrong + " not as due");
    if (wrong != 0) {
      System.exit(1);
    }
  }

  /** One byte a call would use up an object's calls: eight at once, as long as there are as many. */
  static void write(LightestRules x, String text) {
    int at = 0;
    while (at < text.length()) {
      int n = Math.min(8, text.length() - at);
      x.write(n, bytes(text.substring(at, at + n)));
      at += n;
    }
  }

  static long bytes(String text) {
    long v = 0;
    for (int i = 0; i < text.length(); i++) {
      v = v << 8 | text.charAt(i);
    }
    return v;
  }

  static void rewrite(LightestRules x, String text) {
    x.wipe();
    write(x, text);
  }

  static LightestRules land(String text) {
    LightestRules x = new LightestRules();
    write(x, text);
    due("land of " + text, x.land(), (text.length() - 4) / 6);
    return x;
  }

  /** People of these weights, the light ones by toil, since a text tells none below 100. */
  static LightestRules weighing(String head, String pockets, int... weights) {
    StringBuilder text = new StringBuilder(head);
    for (int weight : weights) {
      text.append('P').append(weight + 5 * toilTo(weight)).append(pockets);
    }
    LightestRules x = land(text.toString());
    for (int i = 0; i < weights.length; i++) {
      for (int toil = toilTo(weights[i]); toil > 0; toil -= 9) {
        x.toil(i, Math.min(9, toil));
      }
      due("weight of " + i, x.person(i, 0), weights[i]);
    }
    return x;
  }

  private static int toilTo(int weight) {
    return weight >= 100 ? 0 : (104 - weight) / 5;
  }

  /** Everything of an object that can be asked for without changing it, but for the searching calls. */
  static String look(LightestRules x) {
    StringBuilder seen = new StringBuilder();
    seen.append(x.fault()).append('|').append(x.crown());
    for (int what = 0; what < 10; what++) {
      seen.append(' ').append(x.count(what));
    }
    for (int person = 0; person < 5; person++) {
      seen.append('|');
      for (int what = 0; what < 7; what++) {
        seen.append(' ').append(x.person(person, what));
      }
    }
    return seen.toString();
  }

  static void same(String call, String got, String want) {
    due(call + ": [" + got + "] where [" + want + "] is due:", got.equals(want) ? 1 : 0, 1);
  }
}
