/** Promises 19 to 22: prices, swaps, throats. */
public final class PricesTest {
  private static final Check check = new Check();

  public static void main(String[] args) {
    prices();
    clears();
    swaps();
    swapsRefused();
    throats();
    throatsRefused();
    check.end();
  }

  private static void prices() {
    CakesToTheWatched x = Check.of("p000209;p100909;p200001;p400909;p700900;c09;t30;");
    // Bites no more than hunger: 2, 5, (no hunger), 3, 9.
    int[] buy = {4, 4, 4, 3, 2, 2, 1, 1, 1, 1, 0};
    for (int v = 0; v < buy.length; v++) {
      check.due("buy at " + v, x.prices(v, 0), buy[v]);
    }
    // Gazes no more than wish: 2, 1, 1, blind, 0.
    int[] sell = {0, 1, 3, 4, 4};
    for (int v = 0; v < sell.length; v++) {
      check.due("sell at " + v, x.prices(v, 1), sell[v]);
    }
    check.due("31 buy", x.prices(31, 0), 0);
    check.due("31 sell", x.prices(31, 1), 4);
    x.eats(0, 1);
    check.due("who ate sells not", x.prices(31, 1), 3);
    check.due("32", x.prices(32, 0), -1);
    check.due("-1", x.prices(-1, 0), -1);
    check.due("what 2", x.prices(0, 2), -1);
    check.due("what -1", x.prices(0, -1), -1);
  }

  private static void clears() {
    CakesToTheWatched x = Check.of("p000209;p100909;p200001;p400909;p700900;c09;t30;");
    check.due("enough of all", x.clears(31), 0);
    check.due("three look", x.clears(2), 3);
    check.due("one looks", x.clears(1), 6);
    check.due("nobody looks", x.clears(0), 10);
    x.slices(2);
    check.due("two slices", x.clears(31), 4);
    x.slices(0);
    check.due("no slices", x.clears(31), 10);
    check.due("32", x.clears(32), -1);
    check.due("-1", x.clears(-1), -1);
    check.due("nobody", new CakesToTheWatched().clears(0), 0);
  }

  private static void swaps() {
    // The child is shy of 3, who has watched; the guest is not.
    CakesToTheWatched x = Check.of("p103009;p000909;p003009;p000909;p700200;c09;t43;h230;");
    Check.row(x, 0, Check.BYTES, 0, 3, 2, 1);
    check.due("they change", x.swap(0), 1);
    Check.row(x, 0, Check.SHORTS, 2, 3, 0, 1);
    check.due("well so", x.swap(0), -4);
    Check.row(x, 0, Check.INTS, 0, 3);
    check.due("one pair", x.swap(0), -4);
    x.row(0, 0, 0);
    check.due("no pair", x.swap(0), -4);
    // Three pairs: shyness makes the change of the second and third best.
    CakesToTheWatched y = Check.of("p003030;p003030;p003030;p003030;p103030;p003030;p700300;c09;t65;");
    Check.row(y, 0, Check.BYTES, 0, 1, 4, 5, 2, 3);
    check.due("the first of several", y.swap(0), 1);
    Check.row(y, 0, Check.BYTES, 0, 1, 2, 3, 4, 5);
    check.due("the first with the third", y.swap(0), 2);
    y.feels(6, 0, 18);
    y.eats(6, 1);
    y.eats(6, 1);
    check.due("the second and third", y.swap(0), 12);
  }

  private static void swapsRefused() {
    CakesToTheWatched x = Check.of("p003030;".repeat(6) + "p403030;c09;t51;");
    check.due("no shelf", x.swap(8), -1);
    check.due("no shelf below", x.swap(-1), -1);
    check.due("nothing", x.swap(0), -11);
    x.keep(0, 1, 0, 0);
    check.due("a kind", x.swap(0), -12);
    int[][] wrong = {{0}, {0, 1, 2}, {0, 1, 2, 0}, {0, 0}, {0, 7}, {-1, 0}, {0, 5}, {0, 6},
        {0, 1, 2, 3, 5, 4, 6, 0, 0, 0}};
    for (int[] w : wrong) {
      Check.row(x, 0, Check.SHORTS, w);
      check.due("wrong pairs " + java.util.Arrays.toString(w), x.swap(0), -13);
    }
    CakesToTheWatched y = Check.of("p003030;".repeat(8) + "c09;");
    Check.row(y, 0, Check.BYTES, 0, 1, 2, 3, 4, 5, 6, 7);
    check.due("four pairs", y.swap(0), -4);
    y.feels(2, 0, 0);
    check.due("no hunger", y.swap(0), -13);
    y.feels(2, 0, 9);
    y.slices(0);
    check.due("no slices", y.swap(0), -13);
    Check.row(y, 0, Check.INTS, 0, 256);
    check.due("far off", y.swap(0), -13);
  }

  private static void throats() {
    CakesToTheWatched x = new CakesToTheWatched();
    Check.row(x, 0, Check.BYTES, 5, 2);
    check.due("a child, or a deacon of 4", x.throat(0, 7, 4, 0), 0b110);
    check.due("how many", x.throat(0, 7, 4, 1), 2);
    check.due("a child of 0", x.throat(0, 7, 0, 0), 0b10);
    check.due("more hunger", x.throat(0, 8, 4, 0), 0);
    check.due("how many of none", x.throat(0, 8, 4, 1), 0);
    Check.row(x, 0, Check.SHORTS, 3, 3);
    check.due("guests", x.throat(0, 9, 1, 0), 0b10101);
    Check.row(x, 0, Check.INTS, 2);
    check.due("by hunger 2 nearly all", x.throat(0, 2, 9, 0), 0b11110111);
    check.due("by hunger 3 those of 2", x.throat(0, 3, 9, 0), 0b1100000);
    x.row(0, 0, 0);
    check.due("told nothing", x.throat(0, 9, 0, 0), 255);
    check.due("all", x.throat(0, 9, 0, 1), 8);
    Check.row(x, 0, Check.BYTES, 9, 9, 9, 3);
    check.due("a cow", x.throat(0, 30, 9, 0), 128);
    Check.row(x, 0, Check.BYTES, -1);
    check.due("below 0", x.throat(0, 30, 9, 0), 0);
  }

  private static void throatsRefused() {
    CakesToTheWatched x = new CakesToTheWatched();
    check.due("nothing", x.throat(0, 0, 0, 0), -11);
    check.due("numbers first", x.throat(0, 31, 0, 0), -1);
    x.keep(0, 1, 0, 0);
    check.due("a kind", x.throat(0, 0, 0, 0), -12);
    x.row(0, 0, 1);
    int[][] wrong = {{-1, 0, 0, 0}, {8, 0, 0, 0}, {0, -1, 0, 0}, {0, 31, 0, 0}, {0, 0, -1, 0}, {0, 0, 10, 0},
        {0, 0, 0, -1}, {0, 0, 0, 2}};
    for (int[] w : wrong) {
      check.due("throat " + java.util.Arrays.toString(w), x.throat(w[0], w[1], w[2], w[3]), -1);
    }
  }
}
