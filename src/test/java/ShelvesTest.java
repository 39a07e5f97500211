/** Promises 35 to 41: shelves. */
public final class ShelvesTest {
  private static final Check check = new Check();

  public static void main(String[] args) {
    keeps();
    rows();
    puts();
    elements();
    copies();
    copiesWithinOne();
    copiesRefused();
    costs();
    tosses();
    check.end();
  }

  private static void keeps() {
    CakesToTheWatched x = new CakesToTheWatched();
    check.due("a kind", x.keep(7, 1, 7, 9), 0);
    check.due("it costs", x.cost(7), 1);
    int[][] wrong = {{-1, 0, 0, 0}, {8, 0, 0, 0}, {7, 2, 0, 0}, {7, -1, 0, 0}, {7, 1, 8, 0}, {7, 1, -1, 0},
        {7, 1, 0, 10}, {7, 1, 0, -1}};
    for (int[] w : wrong) {
      check.due("keep " + java.util.Arrays.toString(w), x.keep(w[0], w[1], w[2], w[3]), -1);
    }
    check.due("it stays", x.cost(7), 1);
    check.due("nothing", x.keep(7, 0, -5, 99), 0);
    check.due("it is gone", x.cost(7), -11);
  }

  private static void rows() {
    CakesToTheWatched x = new CakesToTheWatched();
    check.due("a row", x.row(0, 2, 100), 0);
    for (int i = 0; i < 100; i++) {
      x.put(0, i, i + 1);
    }
    check.due("a row anew", x.row(0, 1, 100), 0);
    for (int i = 0; i < 100; i++) {
      check.due("zero at " + i, x.element(0, i), 0);
    }
    check.due("no elements", x.row(0, 0, 0), 0);
    check.due("no place", x.put(0, 0, 0), -13);
    check.due("101", x.row(0, 0, 101), -1);
    check.due("-1", x.row(0, 0, -1), -14);
    check.due("shelf first", x.row(8, 0, -1), -1);
    check.due("shelf below", x.row(-1, 0, 1), -1);
    check.due("sort 3", x.row(0, 3, 1), -1);
    check.due("sort first", x.row(0, -1, -1), -1);
    x.row(0, 2, 3);
    x.row(0, 0, -7);
    x.row(0, 0, 101);
    check.due("the row stays", x.put(0, 2, 70000), 0);
    check.due("of ints", x.element(0, 2), 70000);
    x.keep(0, 1, 0, 0);
    check.due("a row in a kind's place", x.row(0, 0, 1), 0);
    check.due("no kind any more", x.cost(0), -12);
  }

  private static void puts() {
    CakesToTheWatched x = new CakesToTheWatched();
    int[] told = {0, 1, -1, 127, 128, 255, 256, -129, 32767, 32768, -32769, 65536, Integer.MAX_VALUE, Integer.MIN_VALUE};
    for (int v : told) {
      Check.row(x, 0, Check.BYTES, v);
      check.due("byte " + v, x.element(0, 0), (byte) v);
      Check.row(x, 0, Check.SHORTS, v);
      check.due("short " + v, x.element(0, 0), (short) v);
      Check.row(x, 0, Check.INTS, v);
      check.due("int " + v, x.element(0, 0), v);
    }
    check.due("shelf 8", x.put(8, 0, 0), -1);
    check.due("shelf -1", x.put(-1, 0, 0), -1);
    check.due("nothing", x.put(1, 0, 0), -11);
    x.keep(1, 1, 0, 0);
    check.due("a kind", x.put(1, 0, 0), -12);
    x.row(1, 0, 3);
    check.due("place 3", x.put(1, 3, 0), -13);
    check.due("place -1", x.put(1, -1, 0), -13);
    check.due("place 2", x.put(1, 2, 5), 0);
    check.due("others stay", x.element(1, 1), 0);
  }

  private static void elements() {
    CakesToTheWatched x = new CakesToTheWatched();
    x.keep(1, 1, 0, 0);
    Check.row(x, 2, Check.BYTES, 4, 5);
    check.due("an element", x.element(2, 1), 5);
    check.due("shelf 8", thrown(x, 8, 0), 1);
    check.due("shelf -1", thrown(x, -1, 0), 1);
    check.due("nothing", thrown(x, 0, 0), 2);
    check.due("a kind", thrown(x, 1, 0), 2);
    check.due("place 2", thrown(x, 2, 2), 2);
    check.due("place -1", thrown(x, 2, -1), 2);
  }

  private static int thrown(CakesToTheWatched x, int d, int i) {
    try {
      x.element(d, i);
      return 0;
    } catch (RuntimeException e) {
      if (e.getClass() == IllegalArgumentException.class) {
        return 1;
      }
      return e.getClass() == IllegalStateException.class ? 2 : 3;
    }
  }

  private static void copies() {
    CakesToTheWatched x = new CakesToTheWatched();
    Check.row(x, 0, Check.SHORTS, 1, 2, 3, 4, 5);
    Check.row(x, 1, Check.SHORTS, 10, 20, 30);
    check.due("two", x.copy(0, 3, 1, 1, 2), 2);
    long[] due = {10, 4, 5};
    for (int i = 0; i < 3; i++) {
      check.due("copied " + i, x.element(1, i), due[i]);
    }
    check.due("from stays", x.element(0, 3), 4);
    check.due("none at the end", x.copy(0, 5, 1, 3, 0), 0);
    check.due("three", x.copy(1, 0, 0, 0, 3), 3);
    check.due("copied back", x.element(0, 0), 10);
  }

  private static void copiesWithinOne() {
    CakesToTheWatched x = new CakesToTheWatched();
    Check.row(x, 0, Check.INTS, 1, 2, 3, 4, 5);
    check.due("up", x.copy(0, 0, 0, 1, 4), 4);
    long[] up = {1, 1, 2, 3, 4};
    for (int i = 0; i < 5; i++) {
      check.due("up " + i, x.element(0, i), up[i]);
    }
    check.due("down", x.copy(0, 2, 0, 0, 3), 3);
    long[] down = {2, 3, 4, 3, 4};
    for (int i = 0; i < 5; i++) {
      check.due("down " + i, x.element(0, i), down[i]);
    }
  }

  private static void copiesRefused() {
    CakesToTheWatched x = new CakesToTheWatched();
    Check.row(x, 0, Check.BYTES, 1, 2, 3);
    Check.row(x, 1, Check.BYTES, 1, 2);
    Check.row(x, 2, Check.SHORTS, 1, 2);
    x.keep(3, 1, 0, 0);
    int[][] calls = {{-1, 0, 0, 0, 0, -1}, {0, 0, 8, 0, 0, -1}, {8, 0, 4, 0, 0, -1}, {4, 0, 0, 0, 0, -11},
        {0, 0, 4, 0, 0, -11}, {3, 0, 4, 0, 0, -11}, {3, 0, 0, 0, 0, -12}, {0, 0, 3, 0, 0, -12}, {0, 0, 2, 0, 0, -12},
        {0, 0, 2, 0, -1, -12}, {0, 0, 1, 0, -1, -13}, {0, 0, 1, 0, 3, -13}, {0, 2, 1, 0, 2, -13},
        {0, 0, 1, 1, 2, -13}, {0, -1, 1, 0, 1, -13}, {0, 0, 1, -1, 1, -13}, {0, 4, 1, 0, 0, -13},
        {0, 0, 1, 3, 0, -13}, {0, 1, 1, 0, Integer.MAX_VALUE, -13}, {0, Integer.MAX_VALUE, 1, 0, 1, -13},
        {0, 0, 1, Integer.MIN_VALUE, 1, -13}};
    for (int[] c : calls) {
      check.due("copy " + java.util.Arrays.toString(c), x.copy(c[0], c[1], c[2], c[3], c[4]), c[5]);
    }
    check.due("nothing was copied", x.element(1, 0), 1);
  }

  private static void costs() {
    CakesToTheWatched x = new CakesToTheWatched();
    int[] ofFigure7 = {4, 3, 11, 10, 2, 17, 6, 1};
    for (int k = 0; k < 8; k++) {
      x.keep(0, 1, k, 7);
      check.due("cost " + k, x.cost(0), ofFigure7[k]);
    }
    refusals("cost", x.cost(8), x.cost(-1), x.cost(1));
    x.row(2, 0, 1);
    check.due("a row", x.cost(2), -12);
  }

  private static void tosses() {
    CakesToTheWatched x = new CakesToTheWatched();
    int[] ofFigure7 = {7, 7, 7, 107, -15, 217, 7, -15};
    for (int k = 0; k < 8; k++) {
      x.keep(0, 1, k, 7);
      check.due("toss " + k, x.toss(0), ofFigure7[k]);
      x.keep(0, 1, k, 0);
      check.due("toss of 0 " + k, x.toss(0), -15);
    }
    refusals("toss", x.toss(8), x.toss(-1), x.toss(1));
    x.row(2, 0, 1);
    check.due("a row", x.toss(2), -12);
  }

  private static void refusals(String call, int ofShelf8, int ofShelfBelow, int ofNothing) {
    check.due(call + " shelf 8", ofShelf8, -1);
    check.due(call + " shelf -1", ofShelfBelow, -1);
    check.due(call + " nothing", ofNothing, -11);
  }
}
