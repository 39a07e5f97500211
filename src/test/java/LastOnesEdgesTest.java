/** Promises 23 to 28 and what terms II say of them, sentence by sentence. */
public final class LastOnesEdgesTest {
  private static final Sentences doc = new Sentences();
  private static final String EIGHT = "tell(" + "p003030;".repeat(8) + "c99;) = 9\n";

  public static void main(String[] args) {
    lastOnes();
    shares();
    crowdRefused();
    crowd();
    mean();
    joyless();
    seen();
    doc.end();
  }

  private static void lastOnes() {
    doc.holds("Promise 23: n (0 .. 99) slices", """
        lastOnes(-1, 9, 0) = -1 | lastOnes(100, 9, 0) = -1 | lastOnes(-1, 9, 1) = -1 | lastOnes(100, 9, 1) = -1
        lastOnes(0, 9, 0) = 0 | lastOnes(0, 9, 1) = 0 | lastOnes(99, 9, 0) = 1 | lastOnes(99, 9, 1) = 9
        """);
    doc.holds("Promise 23: 1 .. k (1 .. 9)", """
        lastOnes(5, 0, 0) = -1 | lastOnes(5, 10, 0) = -1 | lastOnes(5, -1, 0) = -1
        lastOnes(5, 1, 0) = 1 | lastOnes(5, 9, 0) = 1 | lastOnes(5, 1, 1) = 1 | lastOnes(5, 9, 1) = 5
        """);
    doc.holds("Promise 23: what 0, 1", "lastOnes(5, 5, -1) = -1 | lastOnes(5, 5, 2) = -1");
    doc.holds("LAST ONES: by ones", "lastOnes(1, 1, 0) = 1 | lastOnes(1, 1, 1) = 1 | lastOnes(2, 1, 0) = 0 | lastOnes(2, 1, 1) = 0 | lastOnes(98, 1, 0) = 0 | lastOnes(99, 1, 0) = 1");
    doc.holds("LAST ONES: all of k at once", "lastOnes(4, 4, 0) = 1 | lastOnes(4, 4, 1) = 4 | lastOnes(9, 9, 1) = 9");
    doc.holds("LAST ONES: 0 none good", "lastOnes(5, 4, 0) = 0 | lastOnes(5, 4, 1) = 0 | lastOnes(10, 9, 0) = 0 | lastOnes(10, 9, 1) = 0");
    doc.holds("LAST ONES: one more", "lastOnes(6, 4, 0) = 1 | lastOnes(6, 4, 1) = 1 | lastOnes(11, 9, 1) = 1 | lastOnes(8, 4, 1) = 3");
    doc.holds("LAST ONES: whatever SLICES there are", "slices(5) | lastOnes(4, 4, 1) = 4 | count(1) = 5");
  }

  private static void shares() {
    doc.holds("Promise 24: p -1; -1 below; no such one", """
        shares(-1) = 0 | shares(-2) = -1 | shares(0) = -1 | slices(9) | shares(-1) = 9
        tell(p000900;) | shares(0) = 9 | shares(-1) = 0 | shares(1) = -1 | shares(-2) = -1 | shares(-2147483648) = -1
        """);
    doc.holds("SHARES: SLICES times HUNGER over all HUNGER, cut", "tell(p000500;p000300;c09;) | shares(0) = 5 | shares(1) = 3 | shares(-1) = 1");
    doc.holds("SHARES: cut to nothing", "tell(p003000;p000100;c09;) | shares(1) = 0 | shares(0) = 8 | shares(-1) = 1");
    doc.holds("SHARES: without remainder", "tell(p000600;p000300;c09;) | shares(0) = 6 | shares(1) = 3 | shares(-1) = 0");
    doc.holds("SHARES: 0, if all HUNGER is 0; what is left over: all of them then", "tell(p000009;p000009;c09;) | shares(0) = 0 | shares(1) = 0 | shares(-1) = 9 | feels(1, 0, 1) | shares(0) = 0 | shares(1) = 9 | shares(-1) = 0");
    doc.holds("SHARES: no SLICES", "tell(p000909;p000309;) | shares(0) = 0 | shares(-1) = 0");
    doc.holds("SHARES: 99 among eight", EIGHT + "shares(0) = 12 | shares(7) = 12 | shares(8) = -1 | shares(-1) = 3");
    doc.holds("SHARES: whoever CAN EAT", "tell(p400500;c09;) | shares(0) = 9 | count(1) = 9");
  }

  private static void crowdRefused() {
    doc.holds("Promise 25: n (0 .. 8)", "crowd(-1, 2, 0, 0) = 1000000001 | crowd(9, 2, 0, 0) = 1000000001 | crowd(0, 2, 0, 0) = 1 | crowd(8, 2, 4, 1) = 256");
    doc.holds("Promise 25: t (2 .. 20)", "crowd(2, 1, 1, 1) = 1000000001 | crowd(2, 0, 1, 1) = 1000000001 | crowd(2, 21, 1, 1) = 1000000001 | crowd(2, 2, 1, 1) = 4 | crowd(2, 20, 1, 1) = 400");
    doc.holds("Promise 25: k (0 .. 4)", "crowd(8, 2, -1, 0) = 1000000001 | crowd(8, 2, 5, 0) = 1000000001 | crowd(8, 2, 0, 0) = 1 | crowd(8, 2, 4, 0) = 1");
    doc.holds("Promise 25: part 0, 1", "crowd(8, 2, 4, -1) = 1000000001 | crowd(8, 2, 4, 2) = 1000000001 | crowd(8, 2, 4, 0) = 1 | crowd(8, 2, 4, 1) = 256");
  }

  private static void crowd() {
    doc.holds("CROWD: nobody comes", "crowd(0, 2, 0, 0) = 1 | crowd(0, 2, 0, 1) = 1 | crowd(0, 2, 1, 0) = 0 | crowd(0, 2, 1, 1) = 1 | crowd(0, 20, 4, 0) = 0");
    doc.holds("CROWD: no pair of one", "crowd(1, 2, 1, 0) = 0 | crowd(1, 2, 1, 1) = 1 | crowd(2, 2, 1, 0) = 1 | crowd(2, 2, 1, 1) = 4");
    doc.holds("CROWD: no four pairs of seven", "crowd(7, 2, 4, 0) = 0 | crowd(7, 2, 4, 1) = 1 | crowd(7, 2, 3, 0) = 1 | crowd(7, 2, 3, 1) = 16");
    doc.holds("CROWD: 0 pairs or more are sure", "crowd(8, 20, 0, 0) = 1 | crowd(8, 20, 0, 1) = 1 | crowd(1, 7, 0, 0) = 1 | crowd(1, 7, 0, 1) = 1");
    doc.holds("CROWD: a fraction in least terms", "crowd(3, 2, 1, 0) = 1 | crowd(3, 2, 1, 1) = 2 | crowd(3, 3, 1, 0) = 7 | crowd(3, 3, 1, 1) = 27 | crowd(3, 4, 1, 0) = 5 | crowd(3, 4, 1, 1) = 32");
    doc.holds("CROWD: k or more", "crowd(4, 2, 1, 0) = 11 | crowd(4, 2, 1, 1) = 16 | crowd(4, 2, 2, 0) = 1 | crowd(4, 2, 2, 1) = 16 | crowd(5, 2, 2, 0) = 3 | crowd(5, 2, 2, 1) = 16");
    doc.holds("CROWD: longs", "crowd(8, 20, 1, 0) = 1465463047 | crowd(8, 20, 1, 1) = 25600000000 | crowd(8, 20, 4, 0) = 1 | crowd(8, 20, 4, 1) = 25600000000 | crowd(8, 19, 4, 1) = 16983563041");
    doc.holds("CROWD: whoever is there", EIGHT + "crowd(2, 3, 1, 0) = 1 | crowd(2, 3, 1, 1) = 9");
  }

  private static void mean() {
    doc.holds("Promise 26: part 0, 1; refused as told", "mean(-1) = 1000000001 | mean(2) = 1000000001 | tell(p000700;) | mean(0) = 7 | mean(1) = 1 | mean(-1) = 1000000001 | mean(2) = 1000000001");
    doc.holds("MEAN: 0 by 1 of nobody", "mean(0) = 0 | mean(1) = 1");
    doc.holds("MEAN: 0 by 1 without HUNGER", "tell(p000009;p000009;p000009;) | mean(0) = 0 | mean(1) = 1");
    doc.holds("MEAN: a fraction in least terms", "tell(p000100;p000200;) | mean(0) = 3 | mean(1) = 2 | tell(p000300;p000600;) | mean(0) = 3 | mean(1) = 1 | feels(0, 0, 3) | mean(0) = 7 | mean(1) = 2");
    doc.holds("MEAN: of all eight", EIGHT + "mean(0) = 30 | mean(1) = 1 | feels(0, 0, 29) | mean(0) = 239 | mean(1) = 8");
  }

  private static void joyless() {
    doc.holds("Promise 27: nobody there, alone", "joyless() = 0 | tell(p000909;c09;) | joyless() = 0");
    doc.holds("JOYLESS: as they CAN now", "tell(p603000;p000000;c09;t01;) | joyless() = 1 | slices(0) | joyless() = 0 | slices(1) | joyless() = 1 | feels(0, 0, 0) | joyless() = 0");
    doc.holds("JOYLESS: JOYS 0, of both together", "tell(p603000;p000000;c09;t01;) | joyless() = 1 | feels(1, 1, 1) | joyless() = 0");
    doc.holds("JOYLESS: JOYS above 0 by who eats", "tell(p103000;p000000;c99;t01;t01;t01;t01;) | joyless() = 0 | eats(0, 1) = 1 | joyless() = 1 | feels(0, 0, 6) | joyless() = 1 | feels(0, 0, 4) | eats(0, 1) = 0 | joyless() = 0");
    doc.holds("JOYLESS: watched by the first of all", "tell(p000000;p603000;c09;t10;) | joyless() = 1");
    doc.holds("JOYLESS: how many", "tell(p603000;p603000;p000000;p700000;c99;t02;) | joyless() = 2 | eats(0, 3) = 2 | joyless() = 4 | feels(1, 0, 0) | joyless() = 2");
  }

  private static void seen() {
    doc.holds("Promise 28: -1 (bits of nobody)", """
        seen(0) = 0 | seen(1) = -1 | seen(-1) = -1 | seen(-2147483648) = -1 | seen(256) = -1
        tell(p000909;p000909;c09;) | seen(3) = 0 | seen(4) = -1 | seen(5) = -1 | seen(7) = -1 | seen(2147483647) = -1
        """);
    doc.holds("SEEN: bits of eight", EIGHT + "seen(255) = 0 | seen(256) = -1 | seen(128) = 7 | seen(254) = 1 | seen(127) = 1 | seen(0) = 8 | seen(-1) = -1 | seen(-256) = -1");
    doc.holds("SEEN: nobody in the set", "tell(p000909;p400909;p000009;) | seen(0) = 2 | slices(9) | seen(0) = 2 | eats(0, 2) = 5 | seen(0) = 1");
    doc.holds("SEEN: 0 if one of the set can not eat", """
        tell(p000909;p000009;p000909;c09;)
        seen(1) = 2 | seen(2) = 0 | seen(3) = 0 | seen(4) = 2 | seen(5) = 1 | slices(0) | seen(1) = 0 | seen(5) = 0
        """);
    doc.holds("SEEN: watched by one of these, not by one of the set", """
        tell(p000909;p000909;p400909;c09;)
        seen(1) = 1 | seen(3) = 0 | seen(4) = 2 | seen(5) = 1 | seen(7) = 0
        """);
    doc.holds("SEEN: as it is now, with one slice for all of the set", EIGHT + "slices(1) | seen(127) = 1 | seen(15) = 4 | slices(0) | seen(127) = 0");
    doc.holds("SEEN: of those not in the set who CAN LOOK", """
        tell(p000909;p000909;p000909;p400909;c09;)
        seen(1) = 2 | eats(1, 2) = 5 | seen(1) = 1 | seen(3) = 1 | seen(10) = 2
        """);
  }
}
