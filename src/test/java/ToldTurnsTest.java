/** Promises 29 to 31: told turns, fetes by seeds. */
public final class ToldTurnsTest {
  private static final Check check = new Check();

  public static void main(String[] args) {
    forged();
    forgedRefused();
    judged();
    judgedBySorts();
    judgedRefused();
    fetes();
    fetesRefused();
    nothingChanges();
    check.end();
  }

  private static void forged() {
    CakesToTheWatched x = Check.of("p000609;p000909;p400909;c04;");
    int[][] told = {{0, 1, 0, 1, 1, 0}, {0, 1, 0, 1, 0, 1}, {0, 1, 2, 1, 2, 0}, {0, 0}, {3, 0}, {0, 3}, {-1, 0},
        {0, 2}, {2, 0, 2, 0, 2, 0, 2, 0}, {2, 0, 2, 1, 2, 0, 0, 1, 0, 1}, {}, {0, 1}};
    int[] due = {2, 2, 2, 0, 0, 0, 0, 0, 3, 4, -4, -4};
    for (int i = 0; i < told.length; i++) {
      Check.row(x, 0, i % 3, told[i]);
      check.due("forged " + i, x.forged(0), due[i]);
    }
    Check.row(x, 0, Check.INTS, 0, 1, 0, Integer.MIN_VALUE);
    check.due("far off", x.forged(0), 1);
  }

  private static void forgedRefused() {
    CakesToTheWatched x = Check.of("p000609;p000909;c04;");
    check.due("no shelf", x.forged(8), -1);
    check.due("no shelf below", x.forged(-1), -1);
    check.due("nothing", x.forged(0), -11);
    x.keep(0, 1, 0, 0);
    check.due("a kind", x.forged(0), -12);
    Check.row(x, 0, Check.BYTES, 0, 1, 0);
    check.due("unwhole", x.forged(0), -13);
  }

  private static void judged() {
    int[][] told = {{7, 4, 1}, {7, 4, 1, 0}, {7, 4, 2}, {6, 4, 1}, {7, -128, 1}, {-128, 4, 1}, {-128, -128, 7}, {},
        {7}, {-128, -128, -128}, {-4}};
    int[] due = {-4, 3, 2, 0, -4, -4, 2, -4, -4, -4, 0};
    CakesToTheWatched x = Check.of("p000706;p200705;c09;");
    for (int i = 0; i < told.length; i++) {
      Check.row(x, 0, Check.BYTES, told[i]);
      check.due("judge " + i, x.judge(0), due[i]);
    }
    x.slices(0);
    Check.row(x, 0, Check.BYTES, 0);
    check.due("none any more", x.judge(0), 0);
    Check.row(x, 0, Check.BYTES, -4);
    check.due("-4 is none", x.judge(0), 0);
  }

  private static void judgedBySorts() {
    CakesToTheWatched x = Check.of("p000706;p200705;c09;");
    Check.row(x, 0, Check.SHORTS, Short.MIN_VALUE, 4);
    check.due("shorts", x.judge(0), -4);
    Check.row(x, 0, Check.SHORTS, -128, 4);
    check.due("of bytes in shorts", x.judge(0), 0);
    Check.row(x, 0, Check.INTS, Integer.MIN_VALUE, 4);
    check.due("ints", x.judge(0), -4);
    Check.row(x, 0, Check.INTS, Short.MIN_VALUE, 4);
    check.due("of shorts in ints", x.judge(0), 0);
  }

  private static void judgedRefused() {
    CakesToTheWatched x = Check.of("p000609;p000909;c04;");
    check.due("no shelf", x.judge(8), -1);
    check.due("no shelf below", x.judge(-1), -1);
    check.due("nothing", x.judge(0), -11);
    x.keep(0, 1, 0, 0);
    check.due("a kind", x.judge(0), -12);
  }

  /** The draws are made once more here, by a fete that is told with eats. */
  private static void fetes() {
    for (int z = -40; z < 40; z++) {
      int n = 1 + (z + 40) % 3;
      String text = "p001209;p100909;p250909;p360909;p401009;c0" + (3 + (z & 3)) + ";";
      CakesToTheWatched x = Check.of(text);
      int seed = z * 77777777;
      int drawing = seed;
      int joys = 0;
      int turns = 0;
      for (int fete = 0; fete < n; fete++) {
        CakesToTheWatched y = Check.of(text);
        for (int attempt = 0; attempt < 10; attempt++) {
          drawing = drawing * 1103515245 + 12345;
          int p = (int) (((drawing & 0xffffffffL) % 2147483648L) / 65536) % 5;
          drawing = drawing * 1103515245 + 12345;
          int looker = (int) (((drawing & 0xffffffffL) % 2147483648L) / 65536) % 5;
          int answer = y.eats(p, looker);
          joys += Math.max(answer, 0);
          turns += answer >= 0 ? 1 : 0;
        }
      }
      check.due("fetes joys " + z, x.fetes(n, seed, 0), joys);
      check.due("fetes turns " + z, x.fetes(n, seed, 1), turns);
    }
  }

  private static void fetesRefused() {
    CakesToTheWatched x = new CakesToTheWatched();
    check.due("nobody", x.fetes(1, 1, 1), -3);
    check.due("number first", x.fetes(0, 1, 0), -1);
    check.due("what first", x.fetes(1, 1, 2), -1);
    CakesToTheWatched y = Check.of("p001209;c09;");
    check.due("21", y.fetes(21, 1, 0), -1);
    check.due("-1", y.fetes(-1, 1, 0), -1);
    check.due("what -1", y.fetes(1, 1, -1), -1);
    check.due("alone", y.fetes(20, 1, 1), 0);
  }

  private static void nothingChanges() {
    CakesToTheWatched x = Check.of("p000909;p100909;p250909;p360909;c07;t01;");
    String before = Check.told(x);
    x.fetes(20, 99, 0);
    Check.row(x, 0, Check.BYTES, 0, 1, 0, 1);
    check.due("forged", x.forged(0), -4);
    Check.row(x, 0, Check.BYTES, -128, -128);
    check.due("judge", x.judge(0), -4);
    Check.row(x, 0, Check.BYTES, 1, 2);
    x.swap(0);
    x.throat(0, 9, 0, 0);
    x.prices(3, 0);
    x.clears(3);
    x.shares(0);
    x.seen(1);
    x.joyless();
    check.holds("nothing changes", before.equals(Check.told(x)));
  }
}
