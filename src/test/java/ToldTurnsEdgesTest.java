/** Promises 29 to 31 and what terms II say of them, sentence by sentence. */
public final class ToldTurnsEdgesTest {
  private static final Sentences doc = new Sentences();
  private static final String EIGHT = "tell(" + "p003000;".repeat(8) + "c99;) = 9\n";

  public static void main(String[] args) {
    forgedRefused();
    forged();
    judgeRefused();
    judge();
    skipped();
    fetesRefused();
    fetes();
    seeds();
    doc.end();
  }

  private static void forgedRefused() {
    doc.holds("Promise 29: -1", "forged(-1) = -1 | forged(8) = -1 | forged(2147483647) = -1");
    doc.holds("Promise 29: -11", "forged(0) = -11 | forged(7) = -11");
    doc.holds("Promise 29: -12", "keep(0, 1, 0, 0) | forged(0) = -12");
    doc.holds("Promise 29: -13 (unwhole)", "row(0, 0, 1) | forged(0) = -13 | row(0, 1, 3) | forged(0) = -13 | row(0, 2, 99) | forged(0) = -13 | row(7, 0, 100) | forged(7) = 0");
  }

  private static void forged() {
    doc.holds("FORGED: no pair", "row(0, 0, 0) | forged(0) = -4 | row(7, 2, 0) | forged(7) = -4");
    doc.holds("FORGED: -4", "tell(p000609;p000909;c04;) | hold(0, 0, 0, 1) | forged(0) = -4 | hold(0, 1, 0, 1, 0, 1) | forged(0) = -4 | hold(0, 2, 1, 0) | forged(0) = -4");
    doc.holds("FORGED: the pair (0 first)", "tell(p000609;p000909;c04;) | hold(0, 0, 0, 0) | forged(0) = 0 | hold(0, 0, 0, 1, 1, 1) | forged(0) = 1");
    doc.holds("FORGED: the first of several", "tell(p000609;p000909;c04;) | hold(0, 0, 0, 1, 0, 0, 1, 1) | forged(0) = 1");
    doc.holds("FORGED: one not there", """
        tell(p000609;p000909;c04;)
        hold(0, 0, 0, 2) | forged(0) = 0 | hold(0, 0, 2, 0) | forged(0) = 0 | hold(0, 0, -1, 0) | forged(0) = 0
        hold(0, 0, 0, -1) | forged(0) = 0 | hold(0, 2, 0, 2147483647) | forged(0) = 0 | hold(0, 2, 256, 1) | forged(0) = 0
        hold(0, 0, 256, 1) | forged(0) = -4
        """);
    doc.holds("FORGED: one twice", "tell(p000609;p000909;c04;) | hold(0, 0, 1, 1) | forged(0) = 0");
    doc.holds("FORGED: from now, HUNGER ends", "tell(p000609;p000909;c04;) | hold(0, 0, 0, 1, 0, 1, 0, 1) | forged(0) = 2 | feels(0, 0, 7) | forged(0) = -4 | feels(0, 0, 3) | forged(0) = 1 | feels(0, 0, 0) | forged(0) = 0");
    doc.holds("FORGED: from now, SLICES end", "tell(p003009;p000909;c02;) | hold(0, 0, 0, 1, 0, 1, 0, 1) | forged(0) = 2 | slices(3) | forged(0) = -4 | slices(0) | forged(0) = 0");
    doc.holds("FORGED: watched by one who has eaten", "tell(p000909;p000909;p000909;c09;) | hold(0, 0, 0, 1, 1, 0) | forged(0) = 1 | hold(0, 0, 0, 1, 1, 2) | forged(0) = -4 | eats(2, 1) = 5 | forged(0) = 1");
    doc.holds("FORGED: watched by a BLIND one", "tell(p000909;p400909;c09;) | hold(0, 0, 0, 1) | forged(0) = 0 | hold(0, 0, 1, 0) | forged(0) = -4");
    doc.holds("FORGED: 50 pairs", "tell(p303000;p303000;p000000;c99;) | hold(0, 0" + ", 0, 2".repeat(30) + ", 1, 2".repeat(20) + ") | forged(0) = -4 | slices(49) | forged(0) = 49");
    doc.holds("FORGED: 31 pairs of one with HUNGER 30", "tell(p303000;p000000;c99;) | hold(0, 0" + ", 0, 1".repeat(31) + ") | forged(0) = 30");
  }

  private static void judgeRefused() {
    doc.holds("Promise 30: -1", "judge(-1) = -1 | judge(8) = -1 | judge(2147483647) = -1");
    doc.holds("Promise 30: -11", "judge(0) = -11 | judge(7) = -11");
    doc.holds("Promise 30: -12", "keep(0, 1, 0, 0) | judge(0) = -12");
  }

  private static void judge() {
    doc.holds("JUDGED: told nothing", "row(0, 0, 0) | judge(0) = -4 | row(7, 2, 0) | judge(7) = -4");
    doc.holds("JUDGED: JOYS of BEST PAIRS one behind the other", """
        tell(p000706;p200705;c09;)
        hold(0, 0, 7) | judge(0) = -4 | hold(0, 1, 7, 4) | judge(0) = -4 | hold(0, 2, 7, 4, 1) | judge(0) = -4
        """);
    doc.holds("JUDGED: the first that is not so", """
        tell(p000706;p200705;c09;)
        hold(0, 0, 6, 4, 1) | judge(0) = 0 | hold(0, 0, 8, 4, 1) | judge(0) = 0
        hold(0, 0, 7, 5, 2) | judge(0) = 1 | hold(0, 0, 7, 4, 0) | judge(0) = 2
        """);
    doc.holds("JUDGED: none any more, too", "tell(p000706;p200705;c09;) | hold(0, 0, 7, 4, 1, 0) | judge(0) = 3 | hold(0, 0, 7, 4, 1, -4) | judge(0) = 3");
    doc.holds("JUDGED: none at all", "row(0, 0, 1) | judge(0) = 0 | hold(0, 0, -4) | judge(0) = 0 | tell(p000909;c09;) | judge(0) = 0");
    doc.holds("JUDGED: JOYS 0 are so", "tell(p603000;p000000;c09;t01;) | hold(0, 0, 0, 0) | judge(0) = -4 | hold(0, 0, 0, 1) | judge(0) = 1");
    doc.holds("JUDGED: 99 BEST PAIRS", "tell(p303000;p303000;p303000;p303000;p000000;c99;) | hold(0, 0" + ", 1".repeat(100) + ") | judge(0) = 99 | slices(50) | judge(0) = 50");
    doc.holds("JUDGED: 256 more is not so", "tell(p000706;p200705;c09;) | hold(0, 1, 263) | judge(0) = 0 | hold(0, 2, 65543) | judge(0) = 0 | hold(0, 0, 263) | judge(0) = -4");
  }

  private static void skipped() {
    String fete = "tell(p000706;p200705;c09;)\n";
    doc.holds("JUDGED: the least number of bytes is skipped", fete + """
        hold(0, 0, -128, 4, 1) | judge(0) = -4 | hold(0, 0, 7, -128, 1) | judge(0) = -4 | hold(0, 0, 7, 4, -128) | judge(0) = -4
        hold(0, 0, -128, 7) | judge(0) = 1 | hold(0, 0, -127, 4) | judge(0) = 0 | hold(0, 0, 128, 4) | judge(0) = -4
        """);
    doc.holds("JUDGED: the least number of shorts is skipped", fete + """
        hold(0, 1, -32768, 4, 1) | judge(0) = -4 | hold(0, 1, 7, -32768, 2) | judge(0) = 2
        hold(0, 1, -128, 4) | judge(0) = 0 | hold(0, 1, -32767, 4) | judge(0) = 0 | hold(0, 1, 32768, 4) | judge(0) = -4
        """);
    doc.holds("JUDGED: the least number of ints is skipped", fete + """
        hold(0, 2, -2147483648, 4, 1) | judge(0) = -4 | hold(0, 2, 7, -2147483648, 2) | judge(0) = 2
        hold(0, 2, -128, 4) | judge(0) = 0 | hold(0, 2, -32768, 4) | judge(0) = 0 | hold(0, 2, -2147483647, 4) | judge(0) = 0
        """);
  }

  private static void fetesRefused() {
    doc.holds("Promise 31: -3 nobody", "fetes(1, 5, 0) = -3 | fetes(20, 5, 1) = -3 | slices(9) | fetes(1, 5, 0) = -3");
    doc.holds("Promise 31: n fetes (1 .. 20)", EIGHT + "fetes(0, 0, 0) = -1 | fetes(21, 0, 0) = -1 | fetes(-1, 0, 0) = -1 | fetes(1, 0, 0) = 18 | fetes(20, 0, 0) = 360");
    doc.holds("Promise 31: what 0, 1", EIGHT + "fetes(1, 0, -1) = -1 | fetes(1, 0, 2) = -1 | fetes(1, 0, 0) = 18 | fetes(1, 0, 1) = 6");
  }

  private static void fetes() {
    doc.holds("FETES: one twice: not", "tell(p003000;c99;) | fetes(1, 5, 0) = 0 | fetes(20, 5, 1) = 0");
    doc.holds("FETES: each from now", "tell(p000500;p000500;c99;) | fetes(1, 0, 0) = 5 | fetes(2, 0, 0) = 10 | fetes(20, 0, 0) = 94 | fetes(20, 0, 1) = 37");
    doc.holds("FETES: from now, by what there is of SLICES", EIGHT + """
        slices(2) | fetes(1, 1, 0) = 6 | fetes(2, 1, 1) = 4 | fetes(20, 1, 0) = 120 | fetes(20, 1, 1) = 40
        slices(0) | fetes(20, 1, 0) = 0 | fetes(20, 1, 1) = 0
        """);
    doc.holds("FETES: a TURN, if it can be", "tell(p403000;p403000;c99;) | fetes(20, 1, 0) = 0 | fetes(20, 1, 1) = 0");
    doc.holds("FETES: a DRAW below as many as there are", EIGHT.replaceFirst("(p003000;){6}", "").replace("= 9", "= 3")
        + "fetes(2, 12345, 0) = 27 | fetes(2, 12345, 1) = 9 | tell(p003000;) | fetes(2, 12345, 0) = 21 | fetes(2, 12345, 1) = 7");
  }

  private static void seeds() {
    String[] due = {"0, 18, 6, 39, 13", "1, 21, 7, 39, 13", "-1, 15, 5, 39, 13", "2147483647, 15, 5, 39, 13",
        "-2147483648, 18, 6, 39, 13", "12345, 18, 6, 33, 11", "987654321, 18, 6, 45, 15"};
    for (String told : due) {
      String[] d = told.split(", ");
      doc.holds("A DRAW: z (an int), without its sign's bit over 65536, cut", EIGHT
          + "fetes(1, " + d[0] + ", 0) = " + d[1] + " | fetes(1, " + d[0] + ", 1) = " + d[2]
          + " | fetes(2, " + d[0] + ", 0) = " + d[3] + " | fetes(2, " + d[0] + ", 1) = " + d[4]);
    }
  }
}
