/** Counts wrong answers, and spares the tests the putting of texts and rows. */
final class Check {
  static final int BYTES = 0;
  static final int SHORTS = 1;
  static final int INTS = 2;

  private int wrong = 0;

  void due(String call, long got, long want) {
    if (got != want) {
      wrong++;
      System.out.println(call + " answered " + got + ", due is " + want);
    }
  }

  void holds(String what, boolean so) {
    due(what, so ? 1 : 0, 1);
  }

  void end() {
    System.out.println(wrong == 0 ? "all answers are as due" : wrong + " answers are not as due");
    if (wrong != 0) {
      System.exit(1);
    }
  }

  /** A new object to which the text has come; shelf 7 holds it. */
  static CakesToTheWatched of(String text) {
    CakesToTheWatched x = new CakesToTheWatched();
    if (tell(x, text) < 0) {
      throw new IllegalArgumentException("a test's own text is at fault: " + text);
    }
    return x;
  }

  /** What fete answers to the text, put on shelf 7. */
  static int tell(CakesToTheWatched x, String text) {
    x.row(7, BYTES, text.length());
    for (int i = 0; i < text.length(); i++) {
      x.put(7, i, text.charAt(i));
    }
    return x.fete(7);
  }

  static void row(CakesToTheWatched x, int d, int sort, int... elements) {
    x.row(d, sort, elements.length);
    for (int i = 0; i < elements.length; i++) {
      x.put(d, i, elements[i]);
    }
  }

  /** All that can be told of an object, in one text. */
  static String told(CakesToTheWatched x) {
    StringBuilder all = new StringBuilder();
    for (int what = 0; what <= 6; what++) {
      all.append(x.count(what)).append(' ');
    }
    for (int p = 0; p < x.count(0); p++) {
      for (int what = 0; what <= 8; what++) {
        all.append(x.person(p, what)).append(what == 8 ? '\n' : ' ');
      }
    }
    return all.toString();
  }
}
