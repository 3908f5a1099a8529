/** SURE by all plans, each lived through day by day; the others toil by all or nothing on each day. */
final class PlainSure {
  private final int[] weights;
  private final int[] drunk;
  private final int[] pockets;
  private final int burn;
  private int person;
  private int days;
  private int[] othersAtLeast;
  private int[] best;
  private int bestHarm;

  PlainSure(int[] weights, int[] drunk, int[] pockets, int burn) {
    this.weights = weights;
    this.drunk = drunk;
    this.pockets = pockets;
    this.burn = burn;
  }

  void ask(int person, int d, int against) {
    this.person = person;
    days = d;
    best = null;
    bestHarm = Integer.MAX_VALUE;
    othersAtLeast = new int[weights.length];
    for (int i = 0; i < weights.length; i++) {
      othersAtLeast[i] = Integer.MAX_VALUE;
      for (int toiled = 0; toiled < 1 << d; toiled++) {
        int[] plan = new int[d];
        for (int k = 0; k < d; k++) {
          plan[k] = (toiled >> k & 1) * against;
        }
        othersAtLeast[i] = Math.min(othersAtLeast[i], lived(i, plan));
      }
    }
    tryAll(new int[d], 0);
  }

  int harm() {
    return best == null ? Checks.NONE : bestHarm;
  }

  int toilOn(int i) {
    return best == null || i < 0 || i >= days ? Checks.NONE : best[i];
  }

  private void tryAll(int[] plan, int at) {
    if (at == days) {
      tryOne(plan);
      return;
    }
    for (int n = 0; n <= 9; n++) {
      plan[at] = n;
      tryAll(plan, at + 1);
    }
  }

  private void tryOne(int[] plan) {
    int harm = 0;
    for (int n : plan) {
      harm += n * n;
    }
    // Plans come in the order in which the first of like ones is the best.
    if (harm < bestHarm && wins(lived(person, plan))) {
      bestHarm = harm;
      best = plan.clone();
    }
  }

  private boolean wins(int own) {
    for (int i = 0; i < othersAtLeast.length; i++) {
      if (i < person && othersAtLeast[i] <= own || i > person && othersAtLeast[i] < own) {
        return false;
      }
    }
    return true;
  }

  private int lived(int who, int[] plan) {
    int weight = weights[who];
    int water = drunk[who];
    for (int n : plan) {
      weight = Math.max(1, weight - 5 * n);
      weight = Math.max(1, weight - water);
      water = 0;
      weight = Math.max(1, weight - 2 * burn);
    }
    return weight + pockets[who];
  }
}
