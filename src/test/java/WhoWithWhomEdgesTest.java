/** Promises 9 to 18 and what terms II say of them, sentence by sentence. */
public final class WhoWithWhomEdgesTest {
  private static final Sentences doc = new Sentences();
  private static final String EIGHT = "tell(" + "p000909;".repeat(8) + "c99;) = 9\n";

  public static void main(String[] args) {
    who();
    bestPair();
    bestPairNone();
    lastTwoOfEight();
    bestLooker();
    twoTurns();
    pairs();
    pairsBySlices();
    firstPairs();
    greedily();
    atAll();
    left();
    stuck();
    bring();
    bringByFigures();
    feeds();
    doc.end();
  }

  private static void who() {
    doc.holds("Promise 9: nobody there", "who(0) = 0 | who(1) = 0 | slices(9) | who(0) = 0 | who(1) = 0");
    doc.holds("Promise 9: what 0, 1", "tell(p000909;p000009;c09;) | who(0) = 1 | who(1) = 2 | who(-1) = -1 | who(2) = -1");
    doc.holds("Promise 9: all eight", EIGHT + "who(0) = 255 | who(1) = 255");
    doc.holds("EATERS, LOOKERS without SLICES", EIGHT + "slices(0) | who(0) = 0 | who(1) = 0 | slices(1) | who(0) = 255 | who(1) = 255");
    doc.holds("EATERS: watched by somebody", "tell(p000909;p400909;c09;) | who(0) = 2 | tell(p000000;) = 1 | who(0) = 3");
    doc.holds("EATERS: alone", "tell(p000909;c09;) | who(0) = 0 | who(1) = 0");
    doc.holds("LOOKERS: at somebody who then CAN EAT", """
        tell(p000909;p000009;p000009;c09;)
        who(0) = 1 | who(1) = 6
        feels(0, 0, 0) = 9 | who(0) = 0 | who(1) = 0
        feels(2, 0, 1) = 0 | who(0) = 4 | who(1) = 3
        """);
    doc.holds("LOOKERS: not who is BLIND or has eaten", """
        tell(p000909;p400909;p000909;c09;)
        who(0) = 7 | who(1) = 5 | eats(0, 2) = 5 | who(0) = 3 | who(1) = 4
        """);
  }

  private static void bestPair() {
    doc.holds("Promise 10: what 0, 1", "tell(p000909;p000909;c09;) | bestPair(0) = 1 | bestPair(1) = 5 | bestPair(-1) = -1 | bestPair(2) = -1");
    doc.holds("BEST PAIR: of several the least who eats", "tell(p000909;p400000;p000909;c09;) | bestPair(0) = 2 | feels(0, 0, 0) | bestPair(0) = 20");
    doc.holds("BEST PAIR: of several the least who looks", "tell(p400909;p000000;p000909;p000909;c09;) | bestPair(0) = 2 | bestPair(1) = 5");
    doc.holds("BEST PAIR: most JOYS, if the last of all", """
        tell(p000102;p000102;p000102;p000102;p000102;p000102;p590130;p703000;c99;)
        bestPair(0) = 76 | bestPair(1) = 19
        """);
    doc.holds("BEST PAIR: most JOYS of both together", """
        tell(p700900;p000909;p300009;p590910;c09;)
        bestPair(0) = 3 | bestPair(1) = 19
        feels(3, 1, 1) | bestPair(0) = 1 | bestPair(1) = 11
        """);
    doc.holds("BEST PAIR: JOYS 0 are JOYS", "tell(p603000;p000000;c09;t01;) | bestPair(0) = 1 | bestPair(1) = 0");
  }

  private static void bestPairNone() {
    doc.holds("BEST PAIR -4: nobody", "bestPair(0) = -4 | bestPair(1) = -4 | slices(9) | bestPair(0) = -4");
    doc.holds("BEST PAIR -4: alone", "tell(p000909;c09;) | bestPair(0) = -4 | bestPair(1) = -4");
    doc.holds("BEST PAIR -4: no SLICES", "tell(p000909;p000909;) | bestPair(0) = -4 | bestPair(1) = -4 | slices(1) | bestPair(0) = 1");
    doc.holds("BEST PAIR -4: no HUNGER", "tell(p000009;p000009;c09;) | bestPair(0) = -4 | bestPair(1) = -4 | feels(1, 0, 1) | bestPair(0) = 10");
    doc.holds("BEST PAIR -4: nobody who CAN LOOK", "tell(p400909;p400909;c09;) | bestPair(0) = -4 | bestPair(1) = -4");
  }

  private static void lastTwoOfEight() {
    String others = "p400000;p400000;p400000;p400000;p400000;p400000;";
    doc.holds("BEST PAIR of eight: 7 watched by 6, again and again", "tell(" + others + "p590030;p000700;c09;) = 9\n" + """
        bestPair(0) = 76 | bestPair(1) = 13 | twoTurns(0) = 26 | twoTurns(1) = 76
        greedily(30, 0) = 37 | greedily(30, 1) = 3 | bring(9) = -4 | pairs(-1) = 13 | pairs(7) = 6 | pairs(6) = 9
        hold(0, 0, 13, 13, 11) | judge(0) = -4 | hold(0, 0, 7, 6, 7, 6) | forged(0) = -4 | stuck() = 0
        """);
    doc.holds("BEST PAIR of eight: 6 watched by 7, again and again", "tell(" + others + "p000700;p590030;c09;) = 9\n" + """
        bestPair(0) = 67 | bestPair(1) = 13 | twoTurns(0) = 26 | twoTurns(1) = 67
        greedily(30, 0) = 37 | greedily(30, 1) = 3 | bring(9) = -4 | pairs(-1) = 13 | pairs(6) = 7 | pairs(7) = 9
        hold(0, 0, 13, 13, 11) | judge(0) = -4 | hold(0, 0, 6, 7, 6, 7) | forged(0) = -4 | stuck() = 0
        """);
  }

  private static void bestLooker() {
    doc.holds("Promise 11: no such one", "bestLooker(0) = -1 | tell(p000909;p000909;c09;) | bestLooker(-1) = -1 | bestLooker(2) = -1 | bestLooker(0) = 1 | bestLooker(1) = 0");
    doc.holds("Promise 11: of eight", EIGHT + "bestLooker(0) = 1 | bestLooker(7) = 0 | bestLooker(8) = -1");
    doc.holds("BEST LOOKER: of several the least", "tell(p000909;p000902;p000909;p000902;c09;) | bestLooker(0) = 1 | bestLooker(1) = 0 | bestLooker(3) = 0");
    doc.holds("BEST LOOKER: whose looking makes JOYS most", """
        tell(p103000;p000009;p100009;p303000;c09;t31;)
        bestLooker(0) = 1 | eats(3, 1) = 3 | bestLooker(0) = 2 | bestLooker(3) = 1
        """);
    doc.holds("BEST LOOKER -4: no SLICES", "tell(p000909;p000909;) | bestLooker(0) = -4 | slices(1) | bestLooker(0) = 1");
    doc.holds("BEST LOOKER -4: no HUNGER", "tell(p000009;p000909;c09;) | bestLooker(0) = -4 | feels(0, 0, 1) | bestLooker(0) = 1");
    doc.holds("BEST LOOKER -4: nobody else who CAN LOOK", """
        tell(p000909;p400909;c09;)
        bestLooker(0) = -4 | bestLooker(1) = 0 | tell(p000909;) | eats(2, 0) = 5 | bestLooker(0) = -4 | bestLooker(1) = 0
        """);
    doc.holds("BEST LOOKER: with JOYS 0", "tell(p603000;p000000;c09;t01;) | bestLooker(0) = 1");
  }

  private static void twoTurns() {
    doc.holds("Promise 12: what 0, 1", "tell(p000909;p000909;c09;) | twoTurns(0) = 10 | twoTurns(1) = 1 | twoTurns(-1) = -1 | twoTurns(2) = -1");
    doc.holds("TWO TURNS: 0 none; -4", """
        twoTurns(0) = 0 | twoTurns(1) = -4
        tell(p000909;p000909;) | twoTurns(0) = 0 | twoTurns(1) = -4
        """);
    doc.holds("TWO TURNS: of one, if SLICES end", "tell(p000909;p000909;c01;) | twoTurns(0) = 5 | twoTurns(1) = 1 | slices(2) | twoTurns(0) = 10");
    doc.holds("TWO TURNS: of one, if HUNGER ends", "tell(p000302;p000004;c09;) | twoTurns(0) = 5 | twoTurns(1) = 1 | feels(0, 0, 4) | twoTurns(0) = 8");
    doc.holds("TWO TURNS: of one, if nobody CAN LOOK then", "tell(p000309;p000309;c09;) | twoTurns(0) = 5 | twoTurns(1) = 1 | tell(p000000;) | twoTurns(0) = 8");
    doc.holds("TWO TURNS: what WISH the first leaves", "tell(p000902;p000003;c09;) | twoTurns(0) = 9 | feels(1, 1, 2) | twoTurns(0) = 8");
    doc.holds("TWO TURNS: one behind the other, not the best first", """
        tell(p700900;p100500;p200008;c09;)
        twoTurns(0) = 22 | twoTurns(1) = 12 | bestPair(0) = 2 | greedily(2, 0) = 21
        """);
    doc.holds("TWO TURNS: the first of the first such", """
        tell(p000902;p000902;p000902;c09;)
        twoTurns(0) = 10 | twoTurns(1) = 1 | feels(0, 0, 0) | twoTurns(0) = 10 | twoTurns(1) = 10
        """);
    doc.holds("TWO TURNS: of the last two of eight", """
        tell(p400000;p400000;p400000;p400000;p400000;p400000;p000909;p000909;c99;)
        twoTurns(0) = 10 | twoTurns(1) = 67
        """);
    doc.holds("TWO TURNS: JOYS 0 are a TURN", "tell(p603000;p000000;c02;t01;) | twoTurns(0) = 0 | twoTurns(1) = 1");
  }

  private static void pairs() {
    doc.holds("Promise 13: i -1; i below -1, no such one", """
        pairs(-1) = 0 | pairs(0) = -1 | pairs(-2) = -1 | slices(9) | pairs(-1) = 0
        tell(p000909;p000909;) | pairs(-1) = 5 | pairs(0) = 1 | pairs(1) = 9 | pairs(2) = -1 | pairs(-2) = -1
        pairs(2147483647) = -1 | pairs(-2147483648) = -1
        """);
    doc.holds("PAIRS: 9 she looks, or neither", """
        tell(p000909;p000909;p000909;c09;)
        pairs(-1) = 5 | pairs(0) = 1 | pairs(1) = 9 | pairs(2) = 9
        """);
    doc.holds("PAIRS: of one alone", "tell(p000909;c09;) | pairs(-1) = 0 | pairs(0) = 9 | pairs(1) = -1");
    doc.holds("PAIRS: twos apart", """
        tell(p700900;p700900;p590030;p000000;c09;)
        pairs(-1) = 28 | pairs(0) = 2 | pairs(1) = 3 | pairs(2) = 9 | pairs(3) = 9
        """);
    doc.holds("PAIRS: the most JOYS together, not the best one first", """
        tell(p700900;p290708;p000309;p000000;c09;)
        bestPair(0) = 1 | bestPair(1) = 13 | pairs(-1) = 18 | pairs(0) = 2 | pairs(1) = 3 | pairs(2) = 9
        """);
    doc.holds("PAIRS: as it is now, shy of those who have watched", """
        tell(p103000;p000030;p000030;p003000;p303000;c99;t41;t41;t41;h400;)
        pairs(-1) = 12 | pairs(0) = 2 | pairs(1) = 9 | pairs(3) = 1 | pairs(4) = 9
        """);
    doc.holds("PAIRS: twos apart, who eats too", """
        tell(p000009;p700900;p000009;p000000;c09;)
        pairs(-1) = 11 | pairs(0) = 9 | pairs(1) = 0 | pairs(2) = 9 | pairs(3) = 9
        """);
    doc.holds("PAIRS: each a TURN", """
        tell(p000009;p400909;p000009;c09;)
        pairs(-1) = 5 | pairs(0) = 9 | pairs(1) = 0 | pairs(2) = 9
        """);
  }

  private static void pairsBySlices() {
    doc.holds("PAIRS (SLICES enough): 0", EIGHT + "slices(0) | pairs(-1) = 0 | pairs(0) = 9 | pairs(1) = 9 | pairs(7) = 9");
    doc.holds("PAIRS (SLICES enough): 1", EIGHT + "slices(1) | pairs(-1) = 5 | pairs(0) = 1 | pairs(1) = 9 | pairs(2) = 9 | pairs(4) = 9");
    doc.holds("PAIRS (SLICES enough): 2", EIGHT + "slices(2) | pairs(-1) = 10 | pairs(0) = 1 | pairs(2) = 3 | pairs(4) = 9 | pairs(6) = 9");
    doc.holds("PAIRS (SLICES enough): 3", EIGHT + "slices(3) | pairs(-1) = 15 | pairs(0) = 1 | pairs(2) = 3 | pairs(4) = 5 | pairs(6) = 9");
    doc.holds("PAIRS (SLICES enough): 4", EIGHT + "slices(4) | pairs(-1) = 20 | pairs(0) = 1 | pairs(2) = 3 | pairs(4) = 5 | pairs(6) = 7 | pairs(7) = 9");
    doc.holds("PAIRS (SLICES enough): 5 and 99", EIGHT + "slices(5) | pairs(-1) = 20 | pairs(6) = 7 | slices(99) | pairs(-1) = 20 | pairs(6) = 7 | pairs(8) = -1");
  }

  private static void firstPairs() {
    doc.holds("PAIRS: for 0 eating watched by the least", """
        tell(p000909;p400000;p000009;p000009;c09;)
        pairs(0) = 2 | pairs(1) = 9 | pairs(2) = 9 | pairs(3) = 9
        """);
    doc.holds("PAIRS: else looking at the least", """
        tell(p000009;p000909;p000909;c09;)
        pairs(-1) = 5 | pairs(0) = 9 | pairs(1) = 0 | pairs(2) = 9
        """);
    doc.holds("PAIRS: eating goes before looking", "tell(p000909;p400909;p000909;c09;) | pairs(-1) = 5 | pairs(0) = 2 | pairs(1) = 9");
    doc.holds("PAIRS: else neither", """
        tell(p300900;p000909;p000909;c01;)
        pairs(-1) = 5 | pairs(0) = 9 | pairs(1) = 2 | pairs(2) = 9
        """);
    doc.holds("PAIRS: in a pair without JOYS rather than neither", """
        tell(p603000;p000000;p400000;c09;t01;)
        pairs(-1) = 0 | pairs(0) = 1 | pairs(1) = 9 | pairs(2) = 9
        """);
    doc.holds("PAIRS: then for 1, .. of those not in a pair yet", """
        tell(p000909;p000909;p000909;p000909;p000909;c09;)
        pairs(0) = 1 | pairs(1) = 9 | pairs(2) = 3 | pairs(3) = 9 | pairs(4) = 9
        """);
    doc.holds("PAIRS: of those not in a pair yet, when who eats was in one", """
        tell(p000009;p000909;p000909;p000909;c09;)
        pairs(-1) = 10 | pairs(0) = 9 | pairs(1) = 0 | pairs(2) = 3 | pairs(3) = 9
        slices(1) | pairs(-1) = 5 | pairs(1) = 0 | pairs(2) = 9 | pairs(3) = 9
        """);
    doc.holds("PAIRS: of those not in a pair yet, when who looks was in one", """
        tell(p000900;p400909;p400000;p000009;p000009;c09;)
        pairs(-1) = 10 | pairs(0) = 3 | pairs(1) = 4 | pairs(2) = 9 | pairs(3) = 9 | pairs(4) = 9
        """);
  }

  private static void greedily() {
    doc.holds("Promise 14: n times (0 .. 30) at most", """
        tell(p303000;p303000;p000000;c99;)
        greedily(-1, 0) = -1 | greedily(31, 0) = -1 | greedily(-1, 1) = -1 | greedily(31, 1) = -1
        greedily(0, 0) = 0 | greedily(0, 1) = 0 | greedily(1, 0) = 1 | greedily(1, 1) = 1
        greedily(29, 0) = 29 | greedily(29, 1) = 29 | greedily(30, 0) = 30 | greedily(30, 1) = 30
        """);
    doc.holds("Promise 14: what 0, 1", "tell(p000909;p000909;c09;) | greedily(2, 0) = 10 | greedily(2, 1) = 2 | greedily(2, -1) = -1 | greedily(2, 2) = -1");
    doc.holds("GREEDILY: till SLICES end", "tell(p303000;p000000;c05;) | greedily(30, 0) = 5 | greedily(30, 1) = 5 | greedily(5, 1) = 5 | greedily(4, 1) = 4 | greedily(6, 1) = 5");
    doc.holds("GREEDILY: till HUNGER ends", "tell(p000700;p000004;c99;) | greedily(30, 0) = 11 | greedily(30, 1) = 3 | greedily(2, 0) = 10");
    doc.holds("GREEDILY: till nobody CAN LOOK", "tell(p000300;p000300;c99;) | greedily(30, 0) = 3 | greedily(30, 1) = 1");
    doc.holds("GREEDILY: none can be", "greedily(30, 0) = 0 | greedily(30, 1) = 0 | tell(p000909;c09;) | greedily(30, 0) = 0 | greedily(30, 1) = 0");
    doc.holds("GREEDILY: BEST PAIR again and again", """
        tell(p700900;p100500;p200008;c09;)
        greedily(1, 0) = 13 | greedily(2, 0) = 21 | greedily(3, 0) = 21 | greedily(3, 1) = 2
        """);
  }

  private static void atAll() {
    doc.holds("Promise 15: what 0, 1", "tell(p000909;p000909;c09;) | atAll(0) = 1 | atAll(1) = 0 | atAll(-1) = -1 | atAll(2) = -1");
    doc.holds("EAT AT ALL: nobody there", "atAll(0) = 0 | slices(9) | atAll(0) = 0");
    doc.holds("EAT AT ALL: alone", "tell(p000909;c09;) | atAll(0) = 0 | tell(p000009;) | atAll(0) = 1");
    doc.holds("EAT AT ALL: nobody with HUNGER", "tell(p000009;p000009;c09;) | atAll(0) = 0 | feels(1, 0, 1) | atAll(0) = 1");
    doc.holds("EAT AT ALL: SLICES enough or not: no more than there are", EIGHT + """
        atAll(0) = 7 | slices(8) | atAll(0) = 7 | slices(7) | atAll(0) = 7 | slices(6) | atAll(0) = 6
        slices(1) | atAll(0) = 1 | slices(0) | atAll(0) = 0
        """);
    doc.holds("EAT AT ALL: the last one has nobody who looks, unless one looks without HUNGER", EIGHT + "feels(7, 0, 0) | atAll(0) = 7 | feels(6, 0, 0) | atAll(0) = 6");
    doc.holds("EAT AT ALL: a BLIND one eats, but looks not", """
        tell(p400909;p400909;c09;)
        atAll(0) = 0 | tell(p000909;) | atAll(0) = 2 | feels(2, 0, 0) | atAll(0) = 2 | tell(p400000;) | atAll(0) = 2
        feels(2, 0, 1) | atAll(0) = 2
        """);
    doc.holds("EAT AT ALL: those with EATEN 0", """
        tell(p000909;p000909;p000909;c09;t02;)
        atAll(0) = 1 | eats(1, 2) = 5 | atAll(0) = 0 | who(0) = 3
        """);
  }

  private static void left() {
    doc.holds("LEFT: the one with the least HUNGER", "tell(p000900;p000300;p000500;c09;) | atAll(1) = 1 | feels(2, 0, 2) | atAll(1) = 2 | feels(0, 0, 0) | atAll(1) = 0");
    doc.holds("LEFT: of several the least", "tell(p000900;p000300;p000300;) | atAll(1) = 1 | feels(0, 0, 3) | atAll(1) = 0");
    doc.holds("LEFT: HUNGER 30", "tell(p403000;p003000;p003000;) | atAll(1) = 1");
    doc.holds("LEFT: of those who CAN LOOK", """
        tell(p000409;p400009;p000509;c09;)
        atAll(1) = 0 | eats(0, 2) = 5 | atAll(1) = 2 | slices(0) | atAll(1) = 2
        """);
    doc.holds("LEFT: -4", "atAll(1) = -4 | tell(p400009;) | atAll(1) = -4 | tell(p000909;p000909;c09;t12;) | atAll(1) = 2");
  }

  private static void stuck() {
    doc.holds("Promise 16: nobody there", "stuck() = 0 | slices(9) | stuck() = 0");
    doc.holds("STUCK: alone", "tell(p000909;c09;) | stuck() = 1 | feels(0, 0, 0) | stuck() = 0 | feels(0, 0, 1) | stuck() = 1");
    doc.holds("STUCK: though there are SLICES", "tell(p400909;p400909;) | stuck() = 0 | slices(1) | stuck() = 1 | slices(0) | stuck() = 0");
    doc.holds("STUCK: though there is HUNGER", "tell(p000309;p000309;c09;t01;) | stuck() = 1 | feels(1, 0, 0) | stuck() = 0 | feels(0, 0, 1) | stuck() = 0");
    doc.holds("STUCK: nobody CAN EAT", "tell(p000909;p400909;c09;) | stuck() = 0 | feels(1, 0, 0) | stuck() = 1 | tell(p000000;) | stuck() = 0");
  }

  private static void bring() {
    doc.holds("Promise 17: FIGURE f (0 .. 9)", "tell(p000909;p000909;c09;) | bring(0) = 2 | bring(9) = 5 | bring(-1) = -1 | bring(10) = -1");
    doc.holds("BRING: nobody there", "bring(0) = -4 | slices(9) | bring(9) = -4");
    doc.holds("BRING: no SLICES", "tell(p000909;p000909;) | bring(9) = -4 | slices(1) | bring(9) = 5");
    doc.holds("BRING: HUNGER 0, so that who comes eats not", "tell(p000009;p000009;c09;) | bring(0) = -4 | bring(9) = -4");
    doc.holds("BRING: now none is 0", "tell(p000909;c09;) | bring(0) = 2 | tell(p400909;) | eats(1, 0) = 5 | bring(0) = 2");
    doc.holds("BRING: of two BLIND ones", "tell(p400909;p400909;c09;) | bring(0) = 2");
    doc.holds("BRING: even if there are 8", EIGHT + "bring(0) = 2 | bring(9) = 5 | count(0) = 8");
    doc.holds("BRING: more than now", """
        tell(p000909;p500006;c09;)
        bring(0) = -4 | bring(2) = -4 | bring(3) = 5 | feels(1, 1, 3) | bring(0) = 2
        """);
    doc.holds("BRING: WISH 9", """
        tell(p000909;p590009;c09;)
        bring(9) = -4 | bestPair(1) = 12 | feels(1, 1, 8) | bring(9) = 5
        """);
    doc.holds("BRING: nobody has eaten watched by who comes", """
        tell(p103000;p000030;c99;t01;t01;)
        bestPair(1) = 5 | bring(0) = 2
        feels(1, 1, 4) | tell(h001;) | bestPair(1) = 2 | bring(0) = 2
        """);
    doc.holds("BRING: whoever makes the best PAIR, not a pair with one of eight that is worse",
        "tell(p700900;p000900;p500908;c09;) | bestPair(1) = 13 | bring(2) = -4 | bring(3) = 5");
  }

  private static void bringByFigures() {
    int[] due = {2, 2, 2, 5, 5, 5, 5, 5, 5, 5};
    for (int f = 0; f < 10; f++) {
      doc.holds("BRING: of several the least", "tell(p000909;c09;) | bring(" + f + ") = " + due[f]);
    }
  }

  private static void feeds() {
    doc.holds("Promise 18: no such one", "feeds(0) = -1 | tell(p000909;) | feeds(-1) = -1 | feeds(1) = -1 | feeds(0) = 3");
    doc.holds("FEEDS: HUNGER 0", "tell(p000009;) | feeds(0) = 0");
    doc.holds("FEEDS: less than a BITE, a BITE, one more", "tell(p000200;p000300;p000400;) | feeds(0) = 1 | feeds(1) = 1 | feeds(2) = 2");
    doc.holds("FEEDS: HUNGER 30", """
        tell(p003000;p103000;p293000;p303000;p403000;p503000;p603000;p703000;)
        feeds(0) = 10 | feeds(1) = 6 | feeds(2) = 5 | feeds(3) = 30 | feeds(4) = 10 | feeds(5) = 15 | feeds(6) = 15
        feeds(7) = 4 | feeds(8) = -1
        """);
    doc.holds("FEEDS: alone, whatever SLICES there are", "tell(p000700;) | feeds(0) = 3 | slices(1) | feeds(0) = 3");
  }
}
