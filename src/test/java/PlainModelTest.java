import java.util.ArrayList;
import java.util.List;
import java.util.Random;

/** Random fetes against a slow model that tries everything, as terms I and II say it. */
public final class PlainModelTest {
  private static final Check check = new Check();

  public static void main(String[] args) {
    Random random = new Random(41);
    for (int i = 0; i < 3000; i++) {
      compare(i, anyFete(random, i), random);
    }
    crowds();
    check.end();
  }

  /** One turn: who eats and who looks. */
  private record Turn(int p, int looker) {
    int number() {
      return 10 * p + looker;
    }
  }

  private static final class Model {
    final List<int[]> people = new ArrayList<>();
    int slices;

    Model(CakesToTheWatched x) {
      for (int p = 0; p < x.count(0); p++) {
        int[] one = new int[6];
        for (int what = 0; what < 6; what++) {
          one[what] = x.person(p, what);
        }
        people.add(one);
      }
      slices = x.count(1);
    }

    Model(Model other) {
      for (int[] one : other.people) {
        people.add(one.clone());
      }
      slices = other.slices;
    }

    int bite(int p) {
      int f = people.get(p)[1];
      return new int[] {3, 3 + 2, 3 + f / 2, 1, 3, 1 + 1, (3 + 2) / 2, 9}[people.get(p)[0]];
    }

    int gaze(int p) {
      int f = people.get(p)[1];
      return new int[] {2, 2 - 1, 2 + 2, 2 + f / 3, 0, 2 * (2 + f / 3), 2 - 1, 0}[people.get(p)[0]];
    }

    int shy(int p) {
      return new int[] {0, 1, 1, 0, 0, 0, 2, 0}[people.get(p)[0]];
    }

    boolean looks(int p) {
      return people.get(p)[4] == 0 && people.get(p)[0] != 4;
    }

    boolean canBe(Turn t) {
      return t.p != t.looker && slices > 0 && people.get(t.p)[2] > 0 && looks(t.looker);
    }

    int joys(Turn t) {
      int eating = Math.min(bite(t.p), people.get(t.p)[2]) - shy(t.p) * people.get(t.looker)[5];
      return Math.max(eating, 0) + Math.min(gaze(t.looker), people.get(t.looker)[3]);
    }

    Model after(Turn t) {
      Model next = new Model(this);
      int[] eater = next.people.get(t.p);
      int[] looker = next.people.get(t.looker);
      eater[2] = Math.max(eater[2] - bite(t.p), 0);
      looker[3] = Math.max(looker[3] - gaze(t.looker), 0);
      eater[4] = Math.min(99, eater[4] + 1);
      looker[5] = Math.min(99, looker[5] + 1);
      next.slices--;
      return next;
    }

    List<Turn> turns() {
      List<Turn> all = new ArrayList<>();
      for (int p = 0; p < people.size(); p++) {
        for (int looker = 0; looker < people.size(); looker++) {
          if (canBe(new Turn(p, looker))) {
            all.add(new Turn(p, looker));
          }
        }
      }
      return all;
    }

    Turn best() {
      Turn best = null;
      for (Turn t : turns()) {
        best = best == null || joys(t) > joys(best) ? t : best;
      }
      return best;
    }

    int eatAtAll(int done) {
      int most = 0;
      for (Turn t : turns()) {
        if ((done >> t.p & 1) == 0 && people.get(t.p)[4] == 0) {
          most = Math.max(most, 1 + after(t).eatAtAll(done | 1 << t.p));
        }
      }
      return most;
    }
  }

  /** Tries all pairs in the order in which the first is sought. */
  private static final class AllPairs {
    final Model m;
    final int[] now;
    int[] first;
    int most = -1;

    AllPairs(Model m) {
      this.m = m;
      now = new int[m.people.size()];
      java.util.Arrays.fill(now, -1);
      seek(0, m.slices, 0);
    }

    void seek(int one, int slices, int joys) {
      if (one == now.length) {
        if (joys > most) {
          most = joys;
          first = now.clone();
        }
        return;
      }
      if (now[one] >= 0) {
        seek(one + 1, slices, joys);
        return;
      }
      for (int side = 0; side < 2 && slices > 0; side++) {
        for (int other = one + 1; other < now.length; other++) {
          Turn t = side == 0 ? new Turn(one, other) : new Turn(other, one);
          if (now[other] < 0 && m.canBe(t)) {
            now[t.p] = t.looker;
            now[t.looker] = 9;
            seek(one + 1, slices - 1, joys + m.joys(t));
            now[one] = -1;
            now[other] = -1;
          }
        }
      }
      now[one] = 9;
      seek(one + 1, slices, joys);
      now[one] = -1;
    }
  }

  private static CakesToTheWatched anyFete(Random random, int round) {
    CakesToTheWatched x = new CakesToTheWatched();
    int size = round % 10 == 0 ? 8 : random.nextInt(7);
    for (int p = 0; p < size; p++) {
      x.keep(0, 1, random.nextInt(8), random.nextInt(10));
      x.comes(0, Math.max(random.nextInt(24) - 6, 0), Math.max(random.nextInt(16) - 4, 0));
    }
    x.slices(60);
    for (int turns = random.nextInt(9); turns > 0 && size > 0; turns--) {
      x.eats(random.nextInt(size), random.nextInt(size));
    }
    x.slices(random.nextInt(3) == 0 ? 60 : random.nextInt(6));
    return x;
  }

  private static void compare(int round, CakesToTheWatched x, Random random) {
    Model m = new Model(x);
    String of = " of round " + round;
    compareTurns(of, x, m);
    compareTwoTurns(of, x, m);
    comparePairs(of, x, m);
    compareGreedily(of, x, m, random.nextInt(31));
    compareBring(of, x, m, random.nextInt(10));
    compareSwap(of, x, m, random);
    comparePrices(of, x, m, random.nextInt(12));
    compareSeen(of, x, m, random);
    if (m.people.size() < 7) {
      check.due("atAll" + of, x.atAll(0), m.eatAtAll(0));
    }
  }

  private static void compareTurns(String of, CakesToTheWatched x, Model m) {
    int eaters = 0;
    int lookers = 0;
    int joyless = 0;
    for (Turn t : m.turns()) {
      eaters |= 1 << t.p;
      lookers |= 1 << t.looker;
      joyless += m.joys(t) == 0 ? 1 : 0;
      check.due("joys of " + t + of, x.joys(t.p, t.looker, 0), m.joys(t));
    }
    check.due("eaters" + of, x.who(0), eaters);
    check.due("lookers" + of, x.who(1), lookers);
    check.due("joyless" + of, x.joyless(), joyless);
    Turn best = m.best();
    check.due("bestPair" + of, x.bestPair(0), best == null ? -4 : best.number());
    check.due("bestPair's joys" + of, x.bestPair(1), best == null ? -4 : m.joys(best));
    check.due("stuck" + of, x.stuck(), best == null && m.slices > 0 && x.count(3) > 0 ? 1 : 0);
    for (int p = 0; p < m.people.size(); p++) {
      Turn bestOfP = null;
      for (Turn t : m.turns()) {
        if (t.p == p && (bestOfP == null || m.joys(t) > m.joys(bestOfP))) {
          bestOfP = t;
        }
      }
      check.due("bestLooker " + p + of, x.bestLooker(p), bestOfP == null ? -4 : bestOfP.looker);
    }
  }

  private static void compareTwoTurns(String of, CakesToTheWatched x, Model m) {
    int most = -1;
    int first = -4;
    for (Turn t : m.turns()) {
      Model next = m.after(t);
      Turn second = next.best();
      int joys = m.joys(t) + (second == null ? 0 : next.joys(second));
      if (joys > most) {
        most = joys;
        first = t.number();
      }
    }
    check.due("twoTurns" + of, x.twoTurns(0), Math.max(most, 0));
    check.due("twoTurns' first" + of, x.twoTurns(1), first);
  }

  private static void comparePairs(String of, CakesToTheWatched x, Model m) {
    AllPairs all = new AllPairs(m);
    check.due("pairs" + of, x.pairs(-1), all.most);
    for (int p = 0; p < all.first.length; p++) {
      check.due("pairs " + p + of, x.pairs(p), all.first[p]);
    }
  }

  private static void compareGreedily(String of, CakesToTheWatched x, Model m, int n) {
    Model then = m;
    int joys = 0;
    int turns = 0;
    List<Integer> told = new ArrayList<>();
    for (Turn best = then.best(); best != null && turns < n; best = then.best()) {
      told.add(then.joys(best));
      joys += then.joys(best);
      then = then.after(best);
      turns++;
    }
    check.due("greedily " + n + of, x.greedily(n, 0), joys);
    check.due("greedily's turns " + n + of, x.greedily(n, 1), turns);
    Check.row(x, 0, Check.BYTES, told.stream().mapToInt(j -> j).toArray());
    check.due("judge" + of, x.judge(0), -4);
    if (turns > 1) {
      x.put(0, turns / 2, told.get(turns / 2) + 1);
      check.due("judge wrong" + of, x.judge(0), turns / 2);
    }
  }

  private static void compareBring(String of, CakesToTheWatched x, Model m, int f) {
    Turn now = m.best();
    int most = now == null ? 0 : m.joys(now);
    int brought = -4;
    for (int k = 0; k < 8; k++) {
      Model more = new Model(m);
      more.people.add(new int[] {k, f, 0, 9, 0, 0});
      Turn best = more.best();
      if (best != null && more.joys(best) > most) {
        most = more.joys(best);
        brought = k;
      }
    }
    check.due("bring " + f + of, x.bring(f), brought);
  }

  private static void compareSwap(String of, CakesToTheWatched x, Model m, Random random) {
    List<Turn> told = new ArrayList<>();
    List<Turn> left = m.turns();
    while (!left.isEmpty() && told.size() < 4) {
      Turn one = left.get(random.nextInt(left.size()));
      told.add(one);
      left.removeIf(t -> t.p == one.p || t.looker == one.p || t.p == one.looker || t.looker == one.looker);
    }
    int most = 0;
    int best = -4;
    int[] elements = new int[2 * told.size()];
    for (int a = 0; a < told.size(); a++) {
      Turn first = told.get(a);
      elements[2 * a] = first.p;
      elements[2 * a + 1] = first.looker;
      for (int b = a + 1; b < told.size(); b++) {
        Turn second = told.get(b);
        int gain = m.joys(new Turn(first.p, second.looker)) + m.joys(new Turn(second.p, first.looker))
            - m.joys(first) - m.joys(second);
        if (gain > most) {
          most = gain;
          best = 10 * a + b;
        }
      }
    }
    Check.row(x, 0, Check.INTS, elements);
    check.due("swap" + of, x.swap(0), best);
  }

  private static void comparePrices(String of, CakesToTheWatched x, Model m, int g) {
    int clears = -4;
    for (int v = 31; v >= 0; v--) {
      int buy = buyers(m, v);
      if (v < 11) {
        check.due("buy at " + v + of, x.prices(v, 0), buy);
        check.due("sell at " + v + of, x.prices(v, 1), sellers(m, v));
      }
      if (buy <= m.slices && buy <= sellers(m, g)) {
        clears = v;
      }
    }
    check.due("clears " + g + of, x.clears(g), clears);
  }

  private static int buyers(Model m, int v) {
    int buy = 0;
    for (int p = 0; p < m.people.size(); p++) {
      int hunger = m.people.get(p)[2];
      buy += hunger > 0 && Math.min(m.bite(p), hunger) >= v ? 1 : 0;
    }
    return buy;
  }

  private static int sellers(Model m, int v) {
    int sell = 0;
    for (int p = 0; p < m.people.size(); p++) {
      sell += m.looks(p) && Math.min(m.gaze(p), m.people.get(p)[3]) < v ? 1 : 0;
    }
    return sell;
  }

  private static void compareSeen(String of, CakesToTheWatched x, Model m, Random random) {
    int set = random.nextInt(1 << m.people.size()) & random.nextInt(256);
    int lookers = 0;
    boolean all = true;
    for (int p = 0; p < m.people.size(); p++) {
      boolean in = (set >> p & 1) == 1;
      lookers += !in && m.looks(p) ? 1 : 0;
      boolean can = false;
      for (Turn t : m.turns()) {
        can |= t.p == p && (set >> t.looker & 1) == 0;
      }
      all &= !in || can;
    }
    check.due("seen " + set + of, x.seen(set), all ? lookers : 0);
  }

  /** By all who may come or not. */
  private static void crowds() {
    CakesToTheWatched x = new CakesToTheWatched();
    for (int n = 0; n <= 8; n += 2) {
      for (int t = 2; t <= 20; t += 3) {
        for (int k = 0; k <= 4; k++) {
          crowd(x, n, t, k);
        }
      }
    }
  }

  private static void crowd(CakesToTheWatched x, int n, int t, int k) {
    long above = 0;
    long below = 0;
    for (int come = 0; come < 1 << n; come++) {
      long ways = 1;
      for (int p = 0; p < n; p++) {
        ways *= (come >> p & 1) == 1 ? 1 : t - 1;
      }
      below += ways;
      above += Integer.bitCount(come) / 2 >= k ? ways : 0;
    }
    java.math.BigInteger common = java.math.BigInteger.valueOf(above).gcd(java.math.BigInteger.valueOf(below));
    String call = "crowd " + n + " " + t + " " + k;
    check.due(call, x.crowd(n, t, k, 0), above / common.longValue());
    check.due(call + " below", x.crowd(n, t, k, 1), below / common.longValue());
  }
}
