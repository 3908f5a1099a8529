import java.util.Random;

/** Long mixed runs of calls, with wild numbers among them, against the plain model. */
public final class RandomRunsTest {
  private static final int RUNS = 400;
  private static final int CALLS = 500;
  private static final int KINDS = 57;

  private final Random random;
  private final LightestRules x = new LightestRules();
  private final PlainModel plain = new PlainModel();
  private final int run;
  private int calls = 0;

  private RandomRunsTest(int run) {
    this.run = run;
    random = new Random(1000 + run);
  }

  public static void main(String[] args) {
    for (int run = 0; run < RUNS; run++) {
      new RandomRunsTest(run).live();
    }
    Checks.end("RandomRunsTest");
  }

  private void live() {
    tellLand();
    while (calls < CALLS) {
      int kind = random.nextInt(KINDS);
      if (kind == 0) {
        tellLand();
      } else if (kind < 7) {
        textOrLand(kind);
      } else if (kind < 27) {
        act(kind);
      } else if (kind < 34) {
        won(kind);
      } else if (kind < 50) {
        foundOut(kind);
      } else {
        yearOrSlot(kind);
      }
    }
  }

  /** Mostly what may stand, now and then what may not. */
  private int pick(int from, int to) {
    if (random.nextInt(25) == 0) {
      int[] odd = {from - 1, to + 1, Integer.MIN_VALUE, Integer.MAX_VALUE, random.nextInt()};
      return odd[random.nextInt(odd.length)];
    }
    return from + random.nextInt(to - from + 1);
  }

  private int somebody() {
    int people = Math.max(1, plain.count(1));
    return pick(0, people - 1);
  }

  private void due(String call, long got, long want) {
    calls++;
    Checks.due("run " + run + ", call " + calls + ", " + call, got, want);
  }

  private void tellLand() {
    StringBuilder text = new StringBuilder("R");
    text.append(random.nextInt(3)).append(random.nextInt(10)).append(random.nextInt(6));
    int people = random.nextInt(3) == 0 ? random.nextInt(6) : 1 + random.nextInt(3);
    int base = 100 + random.nextInt(3) * 30;
    for (int i = 0; i < people; i++) {
      text.append('P').append(base + random.nextInt(50)).append(random.nextInt(10)).append(random.nextInt(10));
    }
    if (random.nextInt(4) == 0) {
      text.setCharAt(random.nextInt(text.length()), "RP05x".charAt(random.nextInt(5)));
    }
    due("wipe()", x.wipe(), plain.wipe());
    for (int at = 0; at < text.length(); ) {
      int n = Math.min(text.length() - at, 1 + random.nextInt(8));
      long v = Checks.bytes(text.substring(at, at + n)) | (n < 8 ? random.nextLong() << (8 * n) : 0);
      due("write(" + n + ", " + v + ")", x.write(n, v), plain.write(n, v));
      at += n;
    }
    due("fault()", x.fault(), plain.fault());
    due("land()", x.land(), plain.land());
  }

  private void textOrLand(int kind) {
    int person = somebody();
    int what = pick(0, kind == 4 ? 2 : 6);
    int n = pick(1, 8);
    long v = random.nextLong();
    switch (kind) {
      case 1: due("write(" + n + ", " + v + ")", x.write(n, v), plain.write(n, v)); break;
      case 2: due("fault()", x.fault(), plain.fault()); break;
      case 3: due("person(" + person + ", " + what + ")", x.person(person, what), plain.person(person, what)); break;
      case 4: due("law(" + what + ")", x.law(what), plain.law(what)); break;
      case 5: due("land()", x.land(), plain.land()); break;
      default: due("crown()", x.crown(), plain.crown()); break;
    }
  }

  private void act(int kind) {
    int person = somebody();
    int other = somebody();
    boolean stone = random.nextBoolean();
    int n = pick(1, random.nextBoolean() ? 3 : 9);
    String args = "(" + person + ", " + n + ")";
    if (kind < 9) {
      due("eat" + args, x.eat(person, n), plain.eat(person, n));
    } else if (kind < 12) {
      due("toil" + args, x.toil(person, n), plain.toil(person, n));
    } else if (kind < 15) {
      due("drink" + args, x.drink(person, n), plain.drink(person, n));
    } else if (kind < 18) {
      String call = "hand(" + person + ", " + other + ", " + stone + ")";
      due(call, x.hand(person, other, stone), plain.hand(person, other, stone));
    } else if (kind < 20) {
      due("day()", x.day(), plain.day());
    } else if (kind < 22) {
      due("noon()", x.noon(), plain.noon());
    } else if (kind < 25) {
      due("undo()", x.undo(), plain.undo());
    } else {
      for (int what = 0; what < 7; what++) {
        due("person(" + person + ", " + what + ")", x.person(person, what), plain.person(person, what));
      }
    }
  }

  private void won(int kind) {
    int person = somebody();
    int d = pick(1, 3 + random.nextInt(20) / 18);
    int against = pick(0, 9);
    int i = pick(0, 3);
    String args = "(" + person + ", " + d + ", " + against + ", " + i + ")";
    if (kind < 29) {
      due("sure" + args, x.sure(person, d, against), plain.sure(person, d, against));
    } else if (kind < 31) {
      due("sureAt" + args, x.sureAt(person, d, against, i), plain.sureAt(person, d, against, i));
    } else {
      due("feed(" + person + ")", x.feed(person), plain.feed(person));
    }
  }

  private void foundOut(int kind) {
    if (kind < 40) {
      weighOrSearch(kind);
    } else {
      askFoundOut(kind);
    }
  }

  private void weighOrSearch(int kind) {
    int bits = random.nextInt(512);
    int left = random.nextInt(8) == 0 ? pick(0, 511) : bits;
    int right = random.nextInt(8) == 0 ? pick(0, 511) : random.nextInt(512) & ~bits;
    int came = pick(0, 2);
    int people = pick(1, 31);
    int n = pick(0, random.nextBoolean() ? 9 * Integer.bitCount(people & 31) : 45);
    int person = somebody();
    if (kind < 36) {
      String call = "weigh(" + left + ", " + right + ", " + came + ")";
      due(call, x.weigh(left, right, came), plain.weigh(left, right, came));
    } else if (kind < 38) {
      due("search(" + people + ", " + n + ")", x.search(people, n), plain.search(people, n));
    } else {
      due("ruled(" + person + ")", x.ruled(person), plain.ruled(person));
    }
  }

  private void askFoundOut(int kind) {
    boolean flag = random.nextBoolean();
    int one = pick(0, 4);
    // What forgets comes seldom, so that the rows get long.
    boolean forget = random.nextInt(6) == 0;
    switch (kind) {
      case 40: case 41: due("mayBe(" + flag + ")", x.mayBe(flag), plain.mayBe(flag)); break;
      case 42: due("rows()", x.rows(), plain.rows()); break;
      case 43: due("stones(" + one + ", " + flag + ")", x.stones(one, flag), plain.stones(one, flag)); break;
      case 44: case 45: due("line()", x.line(), plain.line()); break;
      case 46: if (forget) { due("unweigh()", x.unweigh(), plain.unweigh()); } break;
      case 47: if (forget) { due("unsearch()", x.unsearch(), plain.unsearch()); } break;
      case 48: if (forget) { due("unrule()", x.unrule(), plain.unrule()); } break;
      default: due("wipe()", x.wipe(), plain.wipe()); break;
    }
  }

  private void yearOrSlot(int kind) {
    int person = somebody();
    int law = pick(0, 2);
    int slot = pick(0, 1);
    int what = pick(0, 9);
    long v = random.nextLong();
    switch (kind) {
      case 50: due("seed(" + v + ")", x.seed(v), plain.seed(v)); break;
      case 51: due("reign(" + person + ", " + law + ")", x.reign(person, law), plain.reign(person, law)); break;
      case 52: due("keep(" + slot + ")", x.keep(slot), plain.keep(slot)); break;
      case 53: due("again(" + slot + ")", x.again(slot), plain.again(slot)); break;
      default: due("count(" + what + ")", x.count(what), plain.count(what)); break;
    }
  }
}
