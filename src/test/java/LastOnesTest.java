/** Promises 23 to 28: the last ones, shares, crowds. */
public final class LastOnesTest {
  private static final Check check = new Check();

  public static void main(String[] args) {
    lastOnes();
    shares();
    crowds();
    means();
    joyless();
    seen();
    check.end();
  }

  /** By trying all takings. */
  private static void lastOnes() {
    CakesToTheWatched x = new CakesToTheWatched();
    for (int k = 1; k <= 9; k += 4) {
      boolean[] wins = new boolean[100];
      for (int n = 0; n < 78; n++) {
        int take = 0;
        for (int t = Math.min(k, n); t >= 1; t--) {
          if (!wins[n - t]) {
            take = t;
          }
        }
        wins[n] = take > 0;
        check.due("wins " + n + " " + k, x.lastOnes(n, k, 0), wins[n] ? 1 : 0);
        check.due("take " + n + " " + k, x.lastOnes(n, k, 1), take);
      }
    }
    check.due("99", x.lastOnes(99, 9, 1), 9);
    int[][] wrong = {{100, 1, 0}, {-1, 1, 0}, {1, 0, 0}, {1, 10, 0}, {1, 1, 2}, {1, 1, -1}};
    for (int[] w : wrong) {
      check.due("lastOnes " + java.util.Arrays.toString(w), x.lastOnes(w[0], w[1], w[2]), -1);
    }
  }

  private static void shares() {
    CakesToTheWatched x = Check.of("p001000;p000500;p000000;p000700;c20;");
    int[] due = {9, 4, 0, 6};
    for (int p = 0; p < 4; p++) {
      check.due("shares " + p, x.shares(p), due[p]);
    }
    check.due("left over", x.shares(-1), 1);
    check.due("below", x.shares(-2), -1);
    check.due("no such", x.shares(4), -1);
    x.feels(0, 0, 0);
    x.feels(1, 0, 0);
    x.feels(3, 0, 0);
    check.due("no hunger", x.shares(0), 0);
    check.due("all left over", x.shares(-1), 20);
    CakesToTheWatched nobody = new CakesToTheWatched();
    nobody.slices(5);
    check.due("nobody", nobody.shares(-1), 5);
    check.due("nobody's", nobody.shares(0), -1);
  }

  private static void crowds() {
    CakesToTheWatched x = new CakesToTheWatched();
    long[][] due = {{3, 2, 1, 1, 2}, {4, 2, 1, 11, 16}, {8, 20, 4, 1, 25600000000L}, {8, 20, 0, 1, 1},
        {1, 3, 1, 0, 1}, {2, 3, 1, 1, 9}, {5, 3, 2, 11, 243}, {0, 5, 0, 1, 1}, {0, 5, 1, 0, 1},
        {8, 2, 2, 163, 256}, {3, 6, 1, 2, 27}};
    for (long[] c : due) {
      String call = "crowd " + java.util.Arrays.toString(c);
      check.due(call, x.crowd((int) c[0], (int) c[1], (int) c[2], 0), c[3]);
      check.due(call + " below", x.crowd((int) c[0], (int) c[1], (int) c[2], 1), c[4]);
    }
    int[][] wrong = {{-1, 2, 0, 0}, {9, 2, 0, 0}, {0, 1, 0, 0}, {0, 21, 0, 0}, {0, 2, -1, 0}, {0, 2, 5, 0},
        {0, 2, 0, 2}, {0, 2, 0, -1}};
    for (int[] w : wrong) {
      check.due("crowd " + java.util.Arrays.toString(w), x.crowd(w[0], w[1], w[2], w[3]), 1000000001L);
    }
  }

  private static void means() {
    CakesToTheWatched x = Check.of("p001000;p000500;p000000;p000700;");
    check.due("above", x.mean(0), 11);
    check.due("below", x.mean(1), 2);
    x.feels(1, 0, 3);
    check.due("whole", x.mean(0), 5);
    check.due("by one", x.mean(1), 1);
    check.due("part 2", x.mean(2), 1000000001L);
    check.due("part -1", x.mean(-1), 1000000001L);
    CakesToTheWatched y = Check.of("p000000;p000000;");
    check.due("0", y.mean(0), 0);
    check.due("by 1", y.mean(1), 1);
    CakesToTheWatched alone = Check.of("p000900;");
    check.due("alone", alone.mean(0), 9);
    check.due("alone by 1", alone.mean(1), 1);
    check.due("nobody", new CakesToTheWatched().mean(0), 0);
    check.due("nobody's 1", new CakesToTheWatched().mean(1), 1);
  }

  private static void joyless() {
    CakesToTheWatched x = Check.of("p603000;p000000;p700900;p700030;c99;t21;");
    // The twin watched by 1, who has watched once; the cow 3 is new to it.
    check.due("one", x.joyless(), 1);
    x.feels(2, 0, 1);
    x.eats(2, 3);
    check.due("two", x.joyless(), 2);
    x.feels(1, 1, 1);
    check.due("a wish", x.joyless(), 1);
    x.slices(0);
    check.due("no slices", x.joyless(), 0);
  }

  private static void seen() {
    CakesToTheWatched x = Check.of("p000909;p400909;p000009;p000909;c05;");
    check.due("nobody", x.seen(0), 3);
    check.due("one", x.seen(0b1), 2);
    check.due("two", x.seen(0b11), 2);
    check.due("three", x.seen(0b1011), 1);
    check.due("without hunger", x.seen(0b100), 0);
    check.due("all", x.seen(0b1111), 0);
    check.due("bits of nobody", x.seen(0b10000), -1);
    check.due("below", x.seen(-1), -1);
    check.due("least", x.seen(Integer.MIN_VALUE), -1);
    x.slices(1);
    check.due("as it is now", x.seen(0b11), 2);
    x.eats(0, 2);
    x.slices(0);
    check.due("no slices", x.seen(0b1), 0);
    check.due("nobody eats", x.seen(0), 2);
    x.slices(9);
    check.due("who ate eats again", x.seen(0b1), 2);
    CakesToTheWatched y = Check.of("p000909;p400909;c05;");
    check.due("only a blind one looks", y.seen(0b1), 0);
  }
}
