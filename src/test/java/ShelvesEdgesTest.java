/** Promises 35 to 41 and what terms III say of shelves, sentence by sentence. */
public final class ShelvesEdgesTest {
  private static final Sentences doc = new Sentences();
  private static final String IAE = " = throws.IllegalArgumentException";
  private static final String ISE = " = throws.IllegalStateException";

  public static void main(String[] args) {
    nothingAtFirst();
    keep();
    row();
    rowsAtFirst();
    put();
    lowestBits();
    element();
    copyRefused();
    placesOfCopies();
    copy();
    cost();
    costs();
    toss();
    tosses();
    doc.end();
  }

  private static void nothingAtFirst() {
    for (int d = 0; d < 8; d++) {
      doc.holds("SHELVES 0 .. 7 each hold nothing (at first)", "cost(" + d + ") = -11 | element(" + d + ", 0)" + ISE + " | fete(" + d + ") = -11 | keep(" + d + ", 1, 0, 0) = 0 | cost(" + d + ") = 4");
    }
  }

  private static void keep() {
    doc.holds("Promise 35: SHELF d (0 .. 7)", "keep(-1, 0, 0, 0) = -1 | keep(8, 0, 0, 0) = -1 | keep(-1, 1, 0, 0) = -1 | keep(8, 1, 0, 0) = -1 | keep(0, 1, 0, 0) = 0 | keep(7, 1, 1, 0) = 0 | cost(0) = 4 | cost(7) = 3");
    doc.holds("Promise 35: what 0, 1", "keep(0, -1, 0, 0) = -1 | keep(0, 2, 0, 0) = -1 | cost(0) = -11 | keep(0, 0, 0, 0) = 0 | cost(0) = -11 | keep(0, 1, 0, 0) = 0 | cost(0) = 4 | keep(0, 2, 0, 0) = -1 | keep(0, -1, 0, 0) = -1 | cost(0) = 4");
    doc.holds("Promise 35: nothing (the others do not matter)", """
        keep(0, 1, 0, 0) = 0 | keep(0, 0, -1, 10) = 0 | cost(0) = -11
        keep(0, 1, 0, 0) = 0 | keep(0, 0, 8, -1) = 0 | cost(0) = -11
        keep(0, 0, 2147483647, -2147483648) = 0 | row(0, 0, 1) | keep(0, 0, 9, 9) = 0 | cost(0) = -11
        """);
    doc.holds("Promise 35: KIND k (0 .. 7)", "keep(0, 1, -1, 0) = -1 | keep(0, 1, 8, 0) = -1 | cost(0) = -11 | keep(0, 1, 7, 0) = 0 | cost(0) = 1 | keep(0, 1, 0, 0) = 0 | cost(0) = 4 | keep(0, 1, 8, 0) = -1 | cost(0) = 4");
    doc.holds("Promise 35: a FIGURE (0 .. 9)", "keep(0, 1, 2, -1) = -1 | keep(0, 1, 2, 10) = -1 | cost(0) = -11 | keep(0, 1, 2, 9) = 0 | cost(0) = 13 | keep(0, 1, 2, 0) = 0 | cost(0) = 4 | keep(0, 1, 2, 10) = -1 | cost(0) = 4");
    doc.holds("Promise 35: a KIND in the place of a ROW, and of another", "row(0, 0, 1) | cost(0) = -12 | keep(0, 1, 2, 3) = 0 | cost(0) = 7 | toss(0) = 3 | element(0, 0)" + ISE + " | keep(0, 1, 3, 4) = 0 | toss(0) = 104");
    doc.holds("Promise 35: the other SHELVES stay", "keep(3, 1, 2, 3) | hold(5, 0, 9) | keep(4, 1, 0, 0) = 0 | keep(4, 0, 0, 0) = 0 | cost(3) = 7 | element(5, 0) = 9 | cost(4) = -11");
  }

  private static void row() {
    doc.holds("Promise 36: SHELF d (0 .. 7)", "row(-1, 0, 1) = -1 | row(8, 0, 1) = -1 | row(0, 0, 1) = 0 | row(7, 0, 1) = 0 | element(0, 0) = 0 | element(7, 0) = 0");
    doc.holds("Promise 36: a SORT (0 bytes, 1 shorts, 2 ints)", """
        row(0, -1, 1) = -1 | row(0, 3, 1) = -1 | cost(0) = -11
        row(0, 0, 1) = 0 | put(0, 0, 70000) = 0 | element(0, 0) = 112
        row(0, 1, 1) = 0 | put(0, 0, 70000) = 0 | element(0, 0) = 4464
        row(0, 2, 1) = 0 | put(0, 0, 70000) = 0 | element(0, 0) = 70000
        row(0, 3, 1) = -1 | element(0, 0) = 70000
        """);
    doc.holds("Promise 36: -1 (n above 100)", "row(0, 0, 101) = -1 | row(0, 0, 2147483647) = -1 | cost(0) = -11 | row(0, 0, 100) = 0 | element(0, 99) = 0 | element(0, 100)" + ISE + " | row(0, 0, 101) = -1 | element(0, 99) = 0");
    doc.holds("Promise 36: -14", "row(0, 0, -1) = -14 | row(0, 2, -2147483648) = -14 | cost(0) = -11 | row(0, 0, 0) = 0 | element(0, 0)" + ISE + " | hold(0, 0, 7) | row(0, 0, -1) = -14 | element(0, 0) = 7");
    doc.holds("Promise 36: no elements", "row(0, 0, 0) = 0 | cost(0) = -12 | put(0, 0, 1) = -13 | fete(0) = -1000 | judge(0) = -4 | forged(0) = -4 | swap(0) = -4");
  }

  private static void rowsAtFirst() {
    StringBuilder zeros = new StringBuilder("row(0, 2, 100) = 0\n");
    for (int i = 0; i < 100; i++) {
      zeros.append("element(0, ").append(i).append(") = 0\n");
    }
    doc.holds("0 .. 100 elements, 0 at first", zeros.toString());
    doc.holds("elements 0 at first, again", "hold(0, 2, 1, 2, 3) | row(0, 2, 4) = 0 | element(0, 0) = 0 | element(0, 2) = 0 | element(0, 3) = 0");
    doc.holds("elements 0 at first, when there were more", "hold(0, 0, 1, 2, 3) | row(0, 0, 1) = 0 | element(0, 0) = 0 | element(0, 1)" + ISE + " | row(0, 0, 3) = 0 | element(0, 2) = 0");
    doc.holds("elements 0 at first, after a KIND and nothing", "hold(0, 0, 1, 2) | keep(0, 1, 0, 0) | row(0, 0, 2) = 0 | element(0, 0) = 0 | put(0, 1, 5) | keep(0, 0, 0, 0) | row(0, 0, 2) = 0 | element(0, 1) = 0");
  }

  private static void put() {
    doc.holds("Promise 37: -1", "put(-1, 0, 5) = -1 | put(8, 0, 5) = -1 | put(2147483647, 0, 5) = -1");
    doc.holds("Promise 37: -11", "put(0, 0, 5) = -11 | put(7, 0, 5) = -11 | cost(0) = -11");
    doc.holds("Promise 37: -12", "keep(0, 1, 2, 3) | put(0, 0, 5) = -12 | cost(0) = 7");
    doc.holds("Promise 37: -13", "row(0, 0, 3) | put(0, -1, 5) = -13 | put(0, 3, 5) = -13 | put(0, 99, 5) = -13 | put(0, 2147483647, 5) = -13 | put(0, -2147483648, 5) = -13 | put(0, 0, 6) = 0 | put(0, 2, 7) = 0 | element(0, 0) = 6 | element(0, 1) = 0 | element(0, 2) = 7");
    doc.holds("Promise 37: of no elements and of 100", "row(0, 0, 0) | put(0, 0, 5) = -13 | row(0, 0, 100) | put(0, 100, 5) = -13 | put(0, 99, 5) = 0 | element(0, 99) = 5");
  }

  private static void lowestBits() {
    doc.holds("what is put in keeps its lowest bits: bytes", """
        row(0, 0, 1)
        put(0, 0, 127) = 0 | element(0, 0) = 127 | put(0, 0, 128) = 0 | element(0, 0) = -128
        put(0, 0, -128) = 0 | element(0, 0) = -128 | put(0, 0, -129) = 0 | element(0, 0) = 127
        put(0, 0, 255) = 0 | element(0, 0) = -1 | put(0, 0, 256) = 0 | element(0, 0) = 0
        put(0, 0, 2147483647) = 0 | element(0, 0) = -1 | put(0, 0, -2147483648) = 0 | element(0, 0) = 0
        """);
    doc.holds("what is put in keeps its lowest bits: shorts", """
        row(0, 1, 1)
        put(0, 0, 32767) = 0 | element(0, 0) = 32767 | put(0, 0, 32768) = 0 | element(0, 0) = -32768
        put(0, 0, -32768) = 0 | element(0, 0) = -32768 | put(0, 0, -32769) = 0 | element(0, 0) = 32767
        put(0, 0, 65535) = 0 | element(0, 0) = -1 | put(0, 0, 65536) = 0 | element(0, 0) = 0
        put(0, 0, 128) = 0 | element(0, 0) = 128 | put(0, 0, 2147483647) = 0 | element(0, 0) = -1
        """);
    doc.holds("what is put in keeps its lowest bits: ints", """
        row(0, 2, 1)
        put(0, 0, 2147483647) = 0 | element(0, 0) = 2147483647 | put(0, 0, -2147483648) = 0 | element(0, 0) = -2147483648
        put(0, 0, 32768) = 0 | element(0, 0) = 32768 | put(0, 0, 65536) = 0 | element(0, 0) = 65536
        """);
  }

  private static void element() {
    doc.holds("Promise 38: IllegalArgumentException: no such SHELF", "element(-1, 0)" + IAE + " | element(8, 0)" + IAE + " | element(2147483647, 0)" + IAE + " | element(8, -1)" + IAE);
    doc.holds("Promise 38: IllegalStateException: no ROW, nothing", "element(0, 0)" + ISE + " | element(7, 0)" + ISE + " | element(0, -1)" + ISE);
    doc.holds("Promise 38: IllegalStateException: no ROW, a KIND", "keep(0, 1, 0, 0) | element(0, 0)" + ISE);
    doc.holds("Promise 38: IllegalStateException: no such place", "hold(0, 0, 5, 6, 7) | element(0, -1)" + ISE + " | element(0, 3)" + ISE + " | element(0, 2147483647)" + ISE + " | element(0, -2147483648)" + ISE + " | element(0, 0) = 5 | element(0, 2) = 7");
    doc.holds("Promise 38: IllegalStateException: of no elements", "row(0, 0, 0) | element(0, 0)" + ISE);
    doc.holds("Promise 38: on the first and the last SHELF", "hold(0, 0, -5) | hold(7, 2, -2147483648) | element(0, 0) = -5 | element(7, 0) = -2147483648");
  }

  private static void copyRefused() {
    doc.holds("Promise 39: -1", "hold(0, 0, 1) | hold(7, 0, 2) | copy(-1, 0, 0, 0, 1) = -1 | copy(8, 0, 0, 0, 1) = -1 | copy(0, 0, -1, 0, 1) = -1 | copy(0, 0, 8, 0, 1) = -1 | copy(0, 0, 7, 0, 1) = 1 | element(7, 0) = 1");
    doc.holds("Promise 39: -11 (either)", "hold(0, 0, 1) | copy(0, 0, 1, 0, 1) = -11 | copy(1, 0, 0, 0, 1) = -11 | copy(1, 0, 2, 0, 1) = -11 | copy(1, 0, 1, 0, 0) = -11");
    doc.holds("Promise 39: -12, a KIND", "hold(0, 0, 1) | keep(1, 1, 0, 0) | copy(0, 0, 1, 0, 1) = -12 | copy(1, 0, 0, 0, 1) = -12 | copy(1, 0, 1, 0, 0) = -12 | cost(1) = 4 | element(0, 0) = 1");
    doc.holds("Promise 39: -12 (no ROWS of one SORT)", """
        hold(0, 0, 1) | hold(1, 1, 2) | hold(2, 2, 3)
        copy(0, 0, 1, 0, 1) = -12 | copy(1, 0, 0, 0, 1) = -12 | copy(0, 0, 2, 0, 1) = -12 | copy(2, 0, 0, 0, 1) = -12
        copy(1, 0, 2, 0, 1) = -12 | copy(2, 0, 1, 0, 1) = -12 | copy(0, 0, 1, 0, 0) = -12
        element(0, 0) = 1 | element(1, 0) = 2 | element(2, 0) = 3
        """);
    doc.holds("Promise 39: -13 (n below 0, too)", "hold(0, 0, 1, 2) | hold(1, 0, 3, 4) | copy(0, 0, 1, 0, -1) = -13 | copy(0, 1, 1, 1, -1) = -13 | copy(0, 0, 1, 0, -2147483648) = -13 | copy(0, 0, 1, 0, 0) = 0 | element(1, 0) = 3 | element(1, 1) = 4");
  }

  private static void placesOfCopies() {
    String rows = "hold(0, 0, 1, 2, 3) | hold(1, 0, 4, 5)\n";
    doc.holds("Promise 39: -13, from a place that isn't there", rows + """
        copy(0, -1, 1, 0, 1) = -13 | copy(0, 3, 1, 0, 1) = -13 | copy(0, 2, 1, 0, 2) = -13 | copy(1, 0, 0, 0, 3) = -13
        copy(0, -2147483648, 1, 0, 1) = -13 | copy(0, 2147483647, 1, 0, 1) = -13 | copy(0, -1, 1, 0, 0) = -13
        copy(0, 2, 1, 0, 1) = 1 | element(1, 0) = 3 | element(1, 1) = 5
        """);
    doc.holds("Promise 39: -13, to a place that isn't there", rows + """
        copy(0, 0, 1, -1, 1) = -13 | copy(0, 0, 1, 2, 1) = -13 | copy(0, 0, 1, 1, 2) = -13 | copy(0, 0, 1, 0, 3) = -13
        copy(0, 0, 1, -2147483648, 1) = -13 | copy(0, 0, 1, 2147483647, 1) = -13 | copy(0, 0, 1, -1, 0) = -13
        copy(0, 0, 1, 1, 1) = 1 | element(1, 0) = 4 | element(1, 1) = 1
        """);
    doc.holds("Promise 39: -13, a size that isn't as told", rows + "copy(0, 0, 1, 0, 2147483647) = -13 | copy(0, 1, 1, 1, 2147483647) = -13 | copy(0, 0, 0, 0, 4) = -13 | copy(0, 0, 0, 0, 3) = 3");
    doc.holds("Promise 39: no elements", rows + "row(2, 0, 0) | copy(2, 0, 2, 0, 0) = 0 | copy(2, 0, 0, 0, 0) = 0 | copy(0, 0, 2, 0, 0) = 0 | copy(0, 0, 2, 0, 1) = -13 | copy(2, 0, 0, 0, 1) = -13");
    doc.holds("Promise 39: 100 elements", "row(0, 2, 100) | row(1, 2, 100) | put(0, 0, 7) | put(0, 99, 8) | copy(0, 0, 1, 0, 101) = -13 | copy(0, 0, 1, 1, 100) = -13 | copy(0, 1, 1, 0, 100) = -13 | copy(0, 0, 1, 0, 100) = 100 | element(1, 0) = 7 | element(1, 99) = 8");
  }

  private static void copy() {
    doc.holds("Promise 39: n elements come, the others stay", """
        hold(0, 1, 1, 2, 3, 4, 5) | hold(1, 1, 10, 20, 30, 40)
        copy(0, 3, 1, 1, 2) = 2 | element(1, 0) = 10 | element(1, 1) = 4 | element(1, 2) = 5 | element(1, 3) = 40
        element(0, 3) = 4 | element(0, 4) = 5
        """);
    doc.holds("Promise 39: within one ROW, upwards", "hold(0, 0, 1, 2, 3, 4) | copy(0, 0, 0, 1, 3) = 3 | element(0, 0) = 1 | element(0, 1) = 1 | element(0, 2) = 2 | element(0, 3) = 3");
    doc.holds("Promise 39: within one ROW, downwards", "hold(0, 2, 1, 2, 3, 4) | copy(0, 1, 0, 0, 3) = 3 | element(0, 0) = 2 | element(0, 1) = 3 | element(0, 2) = 4 | element(0, 3) = 4");
    doc.holds("Promise 39: bits are kept", "hold(0, 0, -128, 127) | row(1, 0, 2) | copy(0, 0, 1, 0, 2) = 2 | element(1, 0) = -128 | element(1, 1) = 127");
  }

  private static void cost() {
    doc.holds("Promise 40: -1", "cost(-1) = -1 | cost(8) = -1 | cost(2147483647) = -1");
    doc.holds("Promise 40: -11", "cost(0) = -11 | cost(7) = -11");
    doc.holds("Promise 40: -12 (a ROW)", "row(0, 0, 0) | cost(0) = -12 | row(0, 1, 1) | cost(0) = -12 | row(0, 2, 100) | cost(0) = -12");
  }

  private static void byFigures(String sentence, String call, int kind, int... due) {
    for (int figure = 0; figure < 10; figure++) {
      doc.holds(sentence, "keep(0, 1, " + kind + ", " + figure + ") = 0 | " + call + "(0) = " + due[figure]);
    }
  }

  private static void costs() {
    byFigures("COST: GUEST 4", "cost", 0, 4, 4, 4, 4, 4, 4, 4, 4, 4, 4);
    byFigures("COST: CHILD 1 less", "cost", 1, 3, 3, 3, 3, 3, 3, 3, 3, 3, 3);
    byFigures("COST: DEACON FIGURE more", "cost", 2, 4, 5, 6, 7, 8, 9, 10, 11, 12, 13);
    byFigures("COST: TASTER 6 more", "cost", 3, 10, 10, 10, 10, 10, 10, 10, 10, 10, 10);
    byFigures("COST: BLIND half of a GUEST's", "cost", 4, 2, 2, 2, 2, 2, 2, 2, 2, 2, 2);
    byFigures("COST: EXPERT a TASTER's and FIGURE", "cost", 5, 10, 11, 12, 13, 14, 15, 16, 17, 18, 19);
    byFigures("COST: TWIN twice a CHILD's", "cost", 6, 6, 6, 6, 6, 6, 6, 6, 6, 6, 6);
    byFigures("COST: COW 1", "cost", 7, 1, 1, 1, 1, 1, 1, 1, 1, 1, 1);
  }

  private static void toss() {
    doc.holds("Promise 41: -1", "toss(-1) = -1 | toss(8) = -1 | toss(2147483647) = -1");
    doc.holds("Promise 41: -11", "toss(0) = -11 | toss(7) = -11");
    doc.holds("Promise 41: -12 (a ROW)", "row(0, 0, 0) | toss(0) = -12 | row(0, 1, 1) | toss(0) = -12 | row(0, 2, 100) | toss(0) = -12");
    doc.holds("Promise 41: what is thrown stays", "keep(7, 1, 5, 1) | toss(7) = 211 | toss(7) = 211 | cost(7) = 11");
  }

  private static void tosses() {
    byFigures("FAILURE: its FIGURE (GUEST); -15 with FIGURE 0", "toss", 0, -15, 1, 2, 3, 4, 5, 6, 7, 8, 9);
    byFigures("FAILURE: its FIGURE (CHILD)", "toss", 1, -15, 1, 2, 3, 4, 5, 6, 7, 8, 9);
    byFigures("FAILURE: its FIGURE (DEACON)", "toss", 2, -15, 1, 2, 3, 4, 5, 6, 7, 8, 9);
    byFigures("FAILURE: of TASTERS 100 more", "toss", 3, -15, 101, 102, 103, 104, 105, 106, 107, 108, 109);
    byFigures("-15: BLIND ones", "toss", 4, -15, -15, -15, -15, -15, -15, -15, -15, -15, -15);
    byFigures("FAILURE: of EXPERTS 200 plus their COST", "toss", 5, -15, 211, 212, 213, 214, 215, 216, 217, 218, 219);
    byFigures("FAILURE: its FIGURE (TWIN)", "toss", 6, -15, 1, 2, 3, 4, 5, 6, 7, 8, 9);
    byFigures("-15: COWS", "toss", 7, -15, -15, -15, -15, -15, -15, -15, -15, -15, -15);
  }
}
