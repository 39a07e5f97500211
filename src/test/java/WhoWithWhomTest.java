/** Promises 9 to 18: who with whom. */
public final class WhoWithWhomTest {
  private static final Check check = new Check();

  public static void main(String[] args) {
    whoCan();
    bestPairs();
    bestLookers();
    twoTurns();
    twoTurnsOfWhichOneIsAll();
    pairsAllAtOnce();
    pairsByFewSlices();
    pairsOfNoJoys();
    greedilyAgain();
    atAll();
    whoIsLeft();
    stuck();
    bring();
    feeds();
    nothingChanges();
    check.end();
  }

  private static void whoCan() {
    CakesToTheWatched x = Check.of("p000909;p400909;p000009;p000909;c05;t32;");
    check.due("eaters", x.who(0), 0b1011);
    check.due("lookers", x.who(1), 0b0101);
    check.due("what 2", x.who(2), -1);
    check.due("what -1", x.who(-1), -1);
    x.slices(0);
    check.due("no eaters", x.who(0), 0);
    check.due("no lookers", x.who(1), 0);
    CakesToTheWatched y = Check.of("p000909;p000009;c05;");
    check.due("one hungry", y.who(0), 1);
    check.due("not at oneself", y.who(1), 2);
  }

  private static void bestPairs() {
    CakesToTheWatched x = Check.of("p000909;p000909;p100909;p000909;c05;");
    check.due("the least of several", x.bestPair(0), 20);
    check.due("joys", x.bestPair(1), 7);
    x.feels(2, 0, 0);
    check.due("all alike", x.bestPair(0), 1);
    check.due("joys alike", x.bestPair(1), 5);
    check.due("what 2", x.bestPair(2), -1);
    check.due("what -1", x.bestPair(-1), -1);
    x.slices(0);
    check.due("none", x.bestPair(0), -4);
    check.due("no joys", x.bestPair(1), -4);
    check.due("joys of 0", Check.of("p600930;p000000;c09;h030;t01;t01;").bestPair(1), 0);
  }

  private static void bestLookers() {
    CakesToTheWatched x = Check.of("p100909;p000900;p200909;p590909;p230909;c09;");
    check.due("the expert", x.bestLooker(0), 3);
    check.due("not oneself", x.bestLooker(3), 2);
    x.eats(2, 1);
    check.due("not who ate", x.bestLooker(3), 4);
    check.due("who ate, watched", x.bestLooker(2), 3);
    check.due("no such", x.bestLooker(5), -1);
    check.due("below", x.bestLooker(-1), -1);
    x.feels(0, 0, 0);
    check.due("no hunger", x.bestLooker(0), -4);
    x.slices(0);
    check.due("no slices", x.bestLooker(1), -4);
    CakesToTheWatched y = Check.of("p000909;p000909;p000909;c09;");
    check.due("the least", y.bestLooker(1), 0);
  }

  private static void twoTurns() {
    // The cow eats best watched by the expert, then the guest watched by the expert's wish that is left.
    CakesToTheWatched x = Check.of("p000302;p700900;p590018;c05;");
    check.due("joys", x.twoTurns(0), 9 + 10 + 3 + 8);
    check.due("the first", x.twoTurns(1), 2);
    x.slices(1);
    check.due("one slice", x.twoTurns(0), 19);
    check.due("one slice's turn", x.twoTurns(1), 12);
    x.slices(0);
    check.due("no slice", x.twoTurns(0), 0);
    check.due("no turn", x.twoTurns(1), -4);
    check.due("what 2", x.twoTurns(2), -1);
    check.due("what -1", x.twoTurns(-1), -1);
    // The best turn first would leave less: the child is shy of one who has watched.
    CakesToTheWatched y = Check.of("p700900;p700900;p200008;c05;");
    check.due("both cows", y.twoTurns(0), 26);
    check.due("both cows' first", y.twoTurns(1), 2);
  }

  private static void twoTurnsOfWhichOneIsAll() {
    CakesToTheWatched x = Check.of("p303002;p700900;c05;");
    check.due("one alone is more", x.twoTurns(0), 11);
    check.due("its first", x.twoTurns(1), 10);
    // The twin is too shy to have joy, and the cow's wish is 0.
    CakesToTheWatched y = Check.of("p700900;p603000;c09;t01;h000;");
    check.due("no joys", y.twoTurns(0), 0);
    check.due("no joys' first", y.twoTurns(1), -4);
    y = Check.of("p700900;p603000;c09;t10;h000;");
    check.due("joys of 0", y.twoTurns(0), 0);
    check.due("the first with joys of 0", y.twoTurns(1), 10);
  }

  private static void pairsAllAtOnce() {
    CakesToTheWatched x = Check.of("p000906;p100705;p230508;p390503;c09;");
    // 0 by 2 and 1 by 3 have as many joys as 0 by 3 and 1 by 2.
    check.due("joys", x.pairs(-1), 15);
    int[] due = {2, 3, 9, 9};
    for (int i = 0; i < 4; i++) {
      check.due("pairs " + i, x.pairs(i), due[i]);
    }
    // 1 by 0 and 2 by 3 have as many joys as 1 by 3 and 2 by 0.
    x.feels(0, 0, 0);
    check.due("joys if 0 looks", x.pairs(-1), 14);
    int[] ifLooking = {9, 0, 3, 9};
    for (int i = 0; i < 4; i++) {
      check.due("pairs if 0 looks " + i, x.pairs(i), ifLooking[i]);
    }
    check.due("below", x.pairs(-2), -1);
    check.due("no such", x.pairs(4), -1);
    CakesToTheWatched y = Check.of("p000909;".repeat(8) + "c99;");
    check.due("eight alike", y.pairs(-1), 20);
    for (int i = 0; i < 8; i++) {
      check.due("of eight " + i, y.pairs(i), i % 2 == 0 ? i + 1 : 9);
    }
    CakesToTheWatched z = Check.of("p000909;p000909;p000909;c99;");
    check.due("of three 0", z.pairs(0), 1);
    check.due("of three 1", z.pairs(1), 9);
    check.due("of three 2", z.pairs(2), 9);
  }

  private static void pairsByFewSlices() {
    CakesToTheWatched x = Check.of("p000909;".repeat(6) + "p200909;p200909;c02;");
    // A guest watched by a deacon and a deacon watched by a deacon have 7 each.
    check.due("two", x.pairs(-1), 14);
    check.due("first", x.pairs(0), 6);
    check.due("second", x.pairs(1), 7);
    check.due("third", x.pairs(2), 9);
    x.slices(1);
    check.due("one", x.pairs(-1), 7);
    check.due("the one", x.pairs(0), 6);
    check.due("no other", x.pairs(1), 9);
    x.slices(3);
    check.due("three", x.pairs(-1), 19);
    x.slices(0);
    check.due("none", x.pairs(-1), 0);
    check.due("nobody", x.pairs(0), 9);
  }

  private static void pairsOfNoJoys() {
    CakesToTheWatched x = Check.of("p603000;p000000;p703000;p003000;p000000;c99;t21;t24;");
    check.due("joys", x.pairs(-1), 9 + 3);
    // The twin is too shy of 1 and of 4 to have joy, and eats all the same where it takes nothing away.
    x.feels(2, 0, 0);
    x.feels(3, 0, 0);
    check.due("no joys but of 3", x.pairs(-1), 2);
    CakesToTheWatched y = Check.of("p603000;p000000;p700900;c99;t21;");
    check.due("no joys", y.pairs(-1), 0);
    check.due("a pair of none", y.pairs(0), 1);
    check.due("the cow not", y.pairs(2), 9);
  }

  private static void greedilyAgain() {
    CakesToTheWatched x = Check.of("p000706;p200705;c09;");
    // 0 watched by 1: 7, 4, 1; then 1 is still there, but nobody looks at it.
    check.due("three", x.greedily(30, 0), 12);
    check.due("how many", x.greedily(30, 1), 3);
    check.due("two", x.greedily(2, 0), 11);
    check.due("two at most", x.greedily(2, 1), 2);
    check.due("none", x.greedily(0, 0), 0);
    check.due("none at most", x.greedily(0, 1), 0);
    check.due("31", x.greedily(31, 0), -1);
    check.due("-1", x.greedily(-1, 0), -1);
    check.due("what 2", x.greedily(1, 2), -1);
    check.due("what -1", x.greedily(1, -1), -1);
    x.slices(1);
    check.due("one slice", x.greedily(30, 1), 1);
    CakesToTheWatched y = Check.of("p303009;p390009;c99;");
    check.due("thirty", y.greedily(30, 1), 30);
    check.due("thirty's joys", y.greedily(30, 0), 30 + 9);
  }

  private static void atAll() {
    CakesToTheWatched x = Check.of("p000909;p000909;p400909;c09;");
    check.due("the last looks", x.atAll(0), 2);
    x.feels(1, 0, 0);
    check.due("one wants nothing", x.atAll(0), 2);
    x.feels(0, 0, 0);
    check.due("the blind one", x.atAll(0), 1);
    x.slices(0);
    check.due("no slices", x.atAll(0), 0);
    check.due("what 2", x.atAll(2), -1);
    check.due("what -1", x.atAll(-1), -1);
    CakesToTheWatched y = Check.of("p000909;".repeat(5) + "c09;t01;");
    check.due("who ate not again", y.atAll(0), 3);
    y.slices(2);
    check.due("few slices", y.atAll(0), 2);
    check.due("blind ones alone", Check.of("p400909;p400909;c09;").atAll(0), 0);
    check.due("alone", Check.of("p000909;c09;").atAll(0), 0);
    check.due("alone without hunger", Check.of("p000009;c09;").atAll(0), 0);
    check.due("blind without hunger", Check.of("p400009;p000909;c09;").atAll(0), 0);
  }

  private static void whoIsLeft() {
    CakesToTheWatched x = Check.of("p000909;p000705;p400100;p000705;c09;");
    check.due("least hunger", x.atAll(1), 1);
    x.eats(1, 0);
    check.due("not who ate", x.atAll(1), 3);
    x.feels(3, 0, 30);
    check.due("the other", x.atAll(1), 0);
    x.slices(0);
    check.due("slices do not matter", x.atAll(1), 0);
    x.feels(0, 0, 30);
    check.due("30", x.atAll(1), 0);
    check.due("none", Check.of("p400000;").atAll(1), -4);
  }

  private static void stuck() {
    CakesToTheWatched x = Check.of("p000909;p000009;c02;");
    check.due("not", x.stuck(), 0);
    x.feels(1, 0, 3);
    x.eats(1, 0);
    check.due("still not", x.stuck(), 1);
    x.slices(0);
    check.due("no slices", x.stuck(), 0);
    x.slices(1);
    x.feels(0, 0, 0);
    check.due("no hunger", x.stuck(), 0);
    check.due("nobody", new CakesToTheWatched().stuck(), 0);
    check.due("alone", Check.of("p000909;c02;").stuck(), 1);
  }

  private static void bring() {
    CakesToTheWatched x = Check.of("p000909;p000909;c02;");
    check.due("figure 0, least of deacon and expert", x.bring(0), 2);
    check.due("figure 3", x.bring(3), 5);
    check.due("figure -1", x.bring(-1), -1);
    check.due("figure 10", x.bring(10), -1);
    x.slices(0);
    check.due("no slices", x.bring(3), -4);
    CakesToTheWatched y = Check.of("p000909;p590909;c02;");
    check.due("none better", y.bring(2), -4);
    check.due("no hunger", Check.of("p000009;p000009;c02;").bring(9), -4);
    // With the figure 9 an expert's gaze is 10, but the wish is 9.
    CakesToTheWatched z = Check.of("p000509;p590009;c02;t01;l109;");
    check.due("no more than the wish", z.bring(9), -4);
    z.feels(1, 1, 8);
    check.due("one more", z.bring(9), 5);
    check.due("even if there are 8", Check.of("p000909;".repeat(8) + "c05;").bring(0), 2);
    check.due("a cow eats not", Check.of("p400100;c05;").bring(0), 2);
    CakesToTheWatched w = Check.of("p103000;p000000;c99;t01;t01;t01;t01;t01;");
    // The child is shy of 1, which is all that the joys lacked: every kind but the blind makes them more.
    check.due("not shy of a new one", w.bring(0), 2);
    check.due("nobody to eat", new CakesToTheWatched().bring(0), -4);
  }

  private static void feeds() {
    CakesToTheWatched x = Check.of("p001000;p100500;p290800;p303000;p500500;p600100;p702800;p400000;");
    int[] due = {4, 1, 2, 30, 3, 1, 4, 0};
    for (int p = 0; p < 8; p++) {
      check.due("feeds " + p, x.feeds(p), due[p]);
    }
    check.due("no such", x.feeds(8), -1);
    check.due("below", x.feeds(-1), -1);
  }

  private static void nothingChanges() {
    CakesToTheWatched x = Check.of("p000909;p100909;p250909;p360909;c07;t01;");
    String before = Check.told(x);
    for (int what = 0; what < 2; what++) {
      x.who(what);
      x.bestPair(what);
      x.twoTurns(what);
      x.greedily(9, what);
      x.atAll(what);
    }
    x.pairs(-1);
    x.pairs(0);
    x.bestLooker(0);
    x.stuck();
    x.bring(4);
    x.feeds(0);
    check.holds("nothing changes", before.equals(Check.told(x)));
  }
}
