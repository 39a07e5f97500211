/** Promises 19 to 22 and what terms II say of them, sentence by sentence. */
public final class PricesEdgesTest {
  private static final Sentences doc = new Sentences();
  private static final String EIGHT = "tell(" + "p003030;".repeat(8) + "c09;) = 9\n";

  public static void main(String[] args) {
    prices();
    buyers();
    sellers();
    clears();
    swapRefused();
    pairsThatCanNotBe();
    swap();
    swapsOfFour();
    throatRefused();
    throat();
    doc.end();
  }

  private static void prices() {
    doc.holds("Promise 19: v (0 .. 31)", """
        tell(p000909;)
        prices(0, 0) = 1 | prices(31, 0) = 0 | prices(-1, 0) = -1 | prices(32, 0) = -1
        prices(0, 1) = 0 | prices(31, 1) = 1 | prices(-1, 1) = -1 | prices(32, 1) = -1
        """);
    doc.holds("Promise 19: what 0, 1", "tell(p000909;) | prices(3, 0) = 1 | prices(3, 1) = 1 | prices(3, -1) = -1 | prices(3, 2) = -1");
    doc.holds("Promise 19: nobody there", "prices(0, 0) = 0 | prices(31, 0) = 0 | prices(0, 1) = 0 | prices(31, 1) = 0");
    doc.holds("Promise 19: eight there", EIGHT + "prices(0, 0) = 8 | prices(3, 0) = 8 | prices(4, 0) = 0 | prices(2, 1) = 0 | prices(3, 1) = 8 | prices(31, 1) = 8");
  }

  private static void buyers() {
    doc.holds("BUY: who have HUNGER", "tell(p000009;p000109;) | prices(0, 0) = 1 | prices(1, 0) = 1 | feels(1, 0, 0) | prices(0, 0) = 0 | prices(1, 0) = 0");
    doc.holds("BUY: whose BITE is v or more", "tell(p003000;p103000;p703000;) | prices(3, 0) = 3 | prices(4, 0) = 2 | prices(5, 0) = 2 | prices(6, 0) = 1 | prices(9, 0) = 1 | prices(10, 0) = 0");
    doc.holds("BUY: BITE no more than HUNGER", "tell(p000200;p700400;) | prices(2, 0) = 2 | prices(3, 0) = 1 | prices(4, 0) = 1 | prices(5, 0) = 0");
    doc.holds("BUY: BLIND ones and who has eaten, too, whatever SLICES there are", """
        tell(p403009;p003009;p003009;c01;t12;)
        count(1) = 0 | prices(3, 0) = 3
        """);
  }

  private static void sellers() {
    doc.holds("SELL: whose GAZE is less than v", "tell(p000030;p100030;p200030;p700030;) | prices(0, 1) = 0 | prices(1, 1) = 1 | prices(2, 1) = 2 | prices(3, 1) = 3 | prices(4, 1) = 3 | prices(5, 1) = 4");
    doc.holds("SELL: GAZE no more than WISH", "tell(p000001;p590009;p590010;) | prices(1, 1) = 0 | prices(2, 1) = 1 | prices(9, 1) = 1 | prices(10, 1) = 2 | prices(11, 1) = 3");
    doc.holds("SELL: who CAN LOOK", "tell(p403009;p003009;p003009;c05;) | prices(31, 1) = 2 | eats(1, 2) = 5 | prices(31, 1) = 1 | slices(0) | prices(31, 1) = 1");
  }

  private static void clears() {
    doc.holds("Promise 20: g (0 .. 31)", "clears(0) = 0 | clears(31) = 0 | clears(-1) = -1 | clears(32) = -1");
    doc.holds("CLEARS: no more BUY than there are SLICES", """
        tell(p000209;p000309;p700909;)
        slices(3) | clears(31) = 0 | slices(2) | clears(31) = 3 | slices(1) | clears(31) = 4 | slices(0) | clears(31) = 10
        """);
    doc.holds("CLEARS: than SELL at the price g of a look", """
        tell(p000209;p100309;p400909;c99;)
        clears(31) = 3 | clears(3) = 3 | clears(2) = 4 | clears(1) = 4 | clears(0) = 4
        feels(2, 0, 0) | clears(3) = 0 | clears(2) = 3 | clears(1) = 4
        """);
    doc.holds("CLEARS: the least price, 0", "tell(p000009;p000009;) | clears(0) = 0 | clears(31) = 0");
    doc.holds("CLEARS: of eight", EIGHT + "clears(2) = 4 | clears(3) = 0 | slices(8) | clears(3) = 0 | slices(7) | clears(3) = 4");
  }

  private static void swapRefused() {
    doc.holds("Promise 21: -1", "swap(-1) = -1 | swap(8) = -1 | swap(2147483647) = -1");
    doc.holds("Promise 21: -11", "swap(0) = -11 | swap(7) = -11");
    doc.holds("Promise 21: -12 (no ROW)", "keep(0, 1, 0, 0) | swap(0) = -12");
    doc.holds("Promise 21: -13 (unwhole)", EIGHT + """
        hold(0, 0, 0) | swap(0) = -13 | hold(0, 1, 0, 1, 2) | swap(0) = -13
        hold(0, 2, 0, 1, 2, 3, 4, 5, 6) | swap(0) = -13
        """);
    doc.holds("Promise 21: -13 (more than 4 pairs)", EIGHT + """
        hold(0, 0, 0, 1, 2, 3, 4, 5, 6, 7) | swap(0) = -4
        hold(0, 0, 0, 1, 2, 3, 4, 5, 6, 7, 0) | swap(0) = -13
        hold(0, 0, 0, 1, 2, 3, 4, 5, 6, 7, 0, 1) | swap(0) = -13
        row(0, 0, 100) | swap(0) = -13
        """);
    doc.holds("Promise 21: -13 (one told twice)", EIGHT + """
        hold(0, 0, 0, 0) | swap(0) = -13 | hold(0, 0, 0, 1, 0, 2) | swap(0) = -13
        hold(0, 0, 0, 1, 2, 1) | swap(0) = -13 | hold(0, 0, 0, 1, 1, 2) | swap(0) = -13
        hold(0, 0, 0, 1, 2, 0) | swap(0) = -13 | hold(0, 0, 0, 1, 2, 3, 4, 5, 6, 0) | swap(0) = -13
        hold(0, 0, 0, 1, 2, 3) | swap(0) = -4
        """);
    doc.holds("Promise 21: -13 (one not there)", """
        tell(p003030;p003030;c09;)
        hold(0, 0, 0, 2) | swap(0) = -13 | hold(0, 0, 2, 0) | swap(0) = -13
        hold(0, 0, -1, 0) | swap(0) = -13 | hold(0, 0, 0, -1) | swap(0) = -13 | hold(0, 2, 0, 2147483647) | swap(0) = -13
        hold(0, 2, -2147483648, 0) | swap(0) = -13 | hold(0, 2, 0, 33) | swap(0) = -13 | hold(0, 2, 32, 1) | swap(0) = -13
        hold(0, 2, 0, 1) | swap(0) = -4
        """);
  }

  private static void pairsThatCanNotBe() {
    doc.holds("Promise 21: -13 (a pair that can not be): no SLICES", "tell(p003030;p003030;) | hold(0, 0, 0, 1) | swap(0) = -13 | slices(1) | swap(0) = -4");
    doc.holds("Promise 21: -13 (a pair that can not be): no HUNGER", "tell(p003030;p000030;c09;) | hold(0, 0, 1, 0) | swap(0) = -13 | hold(0, 0, 0, 1) | swap(0) = -4");
    doc.holds("Promise 21: -13 (a pair that can not be): watched by a BLIND one", "tell(p003030;p403030;c09;) | hold(0, 0, 0, 1) | swap(0) = -13 | hold(0, 0, 1, 0) | swap(0) = -4");
    doc.holds("Promise 21: -13 (a pair that can not be): watched by one who has eaten", "tell(p003030;p003030;c09;t01;) | hold(0, 0, 1, 0) | swap(0) = -13 | hold(0, 0, 0, 1) | swap(0) = -4");
    doc.holds("Promise 21: -13 (a pair that can not be): the second", "tell(p003030;p003030;p003030;p403030;c09;) | hold(0, 0, 0, 1, 2, 3) | swap(0) = -13 | hold(0, 0, 0, 1, 3, 2) | swap(0) = -4");
  }

  private static void swap() {
    doc.holds("SWAP: no pair, one pair", EIGHT + "row(0, 0, 0) | swap(0) = -4 | hold(0, 0, 0, 1) | swap(0) = -4");
    doc.holds("SWAP: whose lookers, changing places, make JOYS most", """
        tell(p103000;p003000;p000000;p000000;p303000;c99;t42;t42;)
        hold(0, 0, 0, 2, 1, 3) | swap(0) = 1
        hold(0, 1, 1, 3, 0, 2) | swap(0) = 1
        hold(7, 2, 0, 2, 1, 3) | swap(7) = 1
        """);
    doc.holds("SWAP: more than now, not less", "tell(p103000;p003000;p000000;p000000;p303000;c99;t42;t42;) | hold(0, 0, 0, 3, 1, 2) | swap(0) = -4");
    doc.holds("SWAP: more than now, not as much", "tell(p103000;p103000;p000000;p000000;p303000;c99;t42;t42;) | hold(0, 0, 0, 3, 1, 2) | swap(0) = -4 | hold(0, 0, 0, 2, 1, 3) | swap(0) = -4");
    doc.holds("SWAP: one more than now", "tell(p103000;p003000;p000000;p000000;p303000;c99;t42;) | hold(0, 0, 0, 2, 1, 3) | swap(0) = 1");
  }

  private static void swapsOfFour() {
    String told = "hold(0, 0, 0, 1, 2, 3, 4, 5, 6, 7) | swap(0) = ";
    doc.holds("SWAP: the first with the last", "tell(p603000;p000000;p103000;p000000;p103000;p000000;p303000;p000000;c99;t61;)\n" + told + "3");
    doc.holds("SWAP: the second with the third", "tell(p103000;p000000;p003000;p000000;p603000;p000000;p103000;p000000;c99;t65;)\n" + told + "12");
    doc.holds("SWAP: the second with the last", "tell(p103000;p000000;p603000;p000000;p103000;p000000;p303000;p000000;c99;t63;)\n" + told + "13");
    doc.holds("SWAP: the last two", "tell(p103000;p000000;p103000;p000000;p603000;p000000;p303000;p000000;c99;t65;)\n" + told + "23");
    doc.holds("SWAP: of several the first", "tell(p003000;p000000;p003000;p000000;p603000;p000000;p303000;p000000;c99;t65;)\n" + told + "2");
  }

  private static void throatRefused() {
    doc.holds("Promise 22: -1, no such SHELF", "throat(-1, 5, 0, 0) = -1 | throat(8, 5, 0, 0) = -1");
    doc.holds("Promise 22: HUNGER h (0 .. 30)", "row(0, 0, 0) | throat(0, -1, 0, 0) = -1 | throat(0, 31, 0, 0) = -1 | throat(0, 0, 0, 0) = 255 | throat(0, 30, 0, 0) = 255");
    doc.holds("Promise 22: FIGURE f (0 .. 9)", "row(0, 0, 0) | throat(0, 5, -1, 0) = -1 | throat(0, 5, 10, 0) = -1 | throat(0, 5, 0, 0) = 255 | throat(0, 5, 9, 0) = 255");
    doc.holds("Promise 22: what 0, 1", "row(0, 0, 0) | throat(0, 5, 0, -1) = -1 | throat(0, 5, 0, 2) = -1 | throat(0, 5, 0, 0) = 255 | throat(0, 5, 0, 1) = 8");
    doc.holds("Promise 22: -11", "throat(0, 5, 0, 0) = -11 | throat(7, 5, 0, 0) = -11");
    doc.holds("Promise 22: -12", "keep(0, 1, 0, 0) | throat(0, 5, 0, 0) = -12");
  }

  private static void throat() {
    doc.holds("THROAT: told nothing", "row(0, 0, 0) | throat(0, 9, 5, 0) = 255 | throat(0, 9, 5, 1) = 8 | row(7, 2, 0) | throat(7, 9, 5, 0) = 255");
    doc.holds("THROAT: by how much HUNGER fell, one behind the other", """
        hold(0, 0, 3, 2) | throat(0, 5, 0, 0) = 21 | throat(0, 5, 0, 1) = 3 | throat(0, 6, 0, 0) = 0 | throat(0, 6, 0, 1) = 0
        throat(0, 4, 0, 0) = 0
        hold(0, 0, 2, 3) | throat(0, 5, 0, 0) = 0
        """);
    doc.holds("THROAT: HUNGER left is no matter", "hold(0, 0, 3) | throat(0, 30, 0, 0) = 21 | throat(0, 4, 0, 0) = 21");
    doc.holds("THROAT: no more than HUNGER", """
        hold(0, 0, 1) | throat(0, 1, 0, 0) = 255 | throat(0, 1, 0, 1) = 8 | throat(0, 2, 0, 0) = 8
        throat(0, 0, 0, 0) = 0
        """);
    doc.holds("THROAT: with FIGURE f", """
        hold(0, 0, 5, 2) | throat(0, 7, 3, 0) = 2 | throat(0, 7, 4, 0) = 6 | throat(0, 7, 5, 0) = 6 | throat(0, 7, 6, 0) = 2
        """);
    doc.holds("THROAT: EXPERT and TWIN alike", "hold(0, 0, 2, 2, 1) | throat(0, 5, 0, 0) = 96 | throat(0, 5, 9, 1) = 2");
    doc.holds("THROAT: a COW", "hold(0, 0, 9, 9, 9, 3) | throat(0, 30, 9, 0) = 128 | throat(0, 30, 9, 1) = 1");
    doc.holds("THROAT: all of HUNGER 30 by a TASTER", "hold(0, 2" + ", 1".repeat(30) + ") | throat(0, 30, 0, 0) = 8 | throat(0, 29, 0, 1) = 0");
    doc.holds("THROAT: told below 0 or far off", "hold(0, 0, -3) | throat(0, 9, 0, 0) = 0 | hold(0, 2, 259) | throat(0, 9, 0, 0) = 0 | hold(0, 0, 259) | throat(0, 9, 0, 0) = 21");
    doc.holds("THROAT: a byte 0 is no fall while there is HUNGER", "row(0, 0, 1) | throat(0, 9, 0, 0) = 0");
  }
}
