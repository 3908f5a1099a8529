import java.math.BigInteger;

/** A YEAR in numbers without bounds, the 64 bits cut off by hand. */
final class PlainYear {
  private static final BigInteger ROUND = BigInteger.ONE.shiftLeft(64);

  private final int[] startWeights;
  private final int[] pockets;
  private final int ill;
  private int[] months;
  private BigInteger seed;

  PlainYear(int[] weights, int[] pockets, int ill) {
    this.startWeights = weights;
    this.pockets = pockets;
    this.ill = ill;
  }

  int months(int person) {
    return months[person];
  }

  long seed() {
    return seed.longValue();
  }

  void live(long from, int law) {
    seed = BigInteger.valueOf(from).mod(ROUND);
    int[] weights = startWeights.clone();
    months = new int[weights.length];
    for (int month = 0; month < 12; month++) {
      for (int i = 0; i < weights.length; i++) {
        seed = step(seed);
        int left = seed.shiftRight(33).mod(BigInteger.valueOf(7)).intValue();
        weights[i] = Math.max(1, weights[i] + 5 * (left - 3));
      }
      int crowned = crowned(weights, pockets, ill, law);
      if (crowned >= 0) {
        months[crowned]++;
      }
    }
  }

  static BigInteger step(BigInteger x) {
    return x.multiply(new BigInteger("6364136223846793005")).add(new BigInteger("1442695040888963407")).mod(ROUND);
  }

  /** Who has just as many lighter ones as the law wants; NONE. */
  static int crowned(int[] weights, int[] pockets, int ill, int law) {
    for (int one = 0; one < weights.length; one++) {
      int lighter = 0;
      for (int i = 0; i < weights.length; i++) {
        int own = weights[one] + pockets[one];
        int other = weights[i] + pockets[i];
        boolean counts = law != 2 || weights[i] >= 40 * ill;
        lighter += counts && (other < own || other == own && i < one) ? 1 : 0;
      }
      boolean may = law != 2 || weights[one] >= 40 * ill;
      if (may && lighter == (law == 1 ? 1 : 0)) {
        return one;
      }
    }
    return Checks.NONE;
  }
}
