/** Promises 1 to 8 and what terms I say of them, sentence by sentence. */
public final class PeopleEdgesTest {
  private static final Sentences doc = new Sentences();

  public static void main(String[] args) {
    newObject();
    people();
    figures();
    hunger();
    wish();
    eatenAndWatched();
    slices();
    step();
    kinds();
    bites();
    gazes();
    shyness();
    canEat();
    joyOfWhoEats();
    joyOfWhoLooks();
    turns();
    forms();
    numbersOfDigits();
    placesOfFaults();
    kind2();
    allOrNothing();
    fete();
    person();
    comes();
    feels();
    slicesBecome();
    eats();
    joys();
    doc.end();
  }

  private static void newObject() {
    doc.holds("Promise 1: Nobody", """
        count(0) = 0
        count(6) = 0
        person(0, 0) = -1
        who(0) = 0
        fetes(1, 0, 0) = -3
        """);
    doc.holds("Promise 1: no SLICES", "count(1) = 0 | slices(0) = 0");
    doc.holds("SLICES (0 at first), STEP (0 at first)", "count(2) = 0 | image() = 0 | slices(5) = 0");
    doc.holds("An object is used for at most 512 calls: the last of them", "tell(p000909;p000909;c09;) = 3\n"
        + "pairs(-1) = 5\n".repeat(485) + "eats(0, 1) = 5 | eats(0, 1) = 5 | eats(0, 1) = 5 | count(2) = 3 | count(1) = 6");
    doc.holds("all that is counted is 0 at first", "count(3) = 0 | count(4) = 0 | count(5) = 0");
  }

  private static void people() {
    String one = "p000000;";
    doc.holds("PEOPLE 0 .. 7 as they come", """
        keep(0, 1, 0, 0) | keep(1, 1, 3, 1)
        comes(0, 1, 0) = 0 | comes(1, 2, 0) = 1 | comes(0, 3, 0) = 2
        tell(p400400;p500500;) = 2
        comes(1, 6, 0) = 5 | comes(0, 7, 0) = 6 | comes(1, 8, 0) = 7
        person(0, 2) = 1 | person(1, 2) = 2 | person(2, 2) = 3 | person(3, 2) = 4
        person(4, 2) = 5 | person(5, 2) = 6 | person(6, 2) = 7 | person(7, 2) = 8
        person(0, 0) = 0 | person(1, 0) = 3 | person(3, 0) = 4 | person(7, 0) = 3
        """);
    doc.holds("8 at most, by comes", """
        keep(0, 1, 0, 0)
        comes(0, 0, 0) = 0 | comes(0, 0, 0) = 1 | comes(0, 0, 0) = 2 | comes(0, 0, 0) = 3
        comes(0, 0, 0) = 4 | comes(0, 0, 0) = 5 | comes(0, 0, 0) = 6 | count(0) = 7
        comes(0, 0, 0) = 7 | count(0) = 8
        comes(0, 0, 0) = -2 | comes(0, 30, 30) = -2 | count(0) = 8
        """);
    doc.holds("8 at most, by a text", "tell(" + one.repeat(8) + ") = 8 | count(0) = 8 | tell(" + one + ") = -2000");
    doc.holds("9 are too many for a text", "tell(" + one.repeat(9) + ") = -2064 | count(0) = 0");
    doc.holds("8 at most, by both", "keep(0, 1, 0, 0) | comes(0, 0, 0) = 0 | tell(" + one.repeat(8)
        + ") = -2056 | tell(" + one.repeat(7) + ") = 7 | comes(0, 0, 0) = -2");
    doc.holds("a fete without room goes on otherwise", "tell(" + one.repeat(8)
        + ") = 8 | tell(c09;h730;l730;t71;) = 4 | tell(c01;" + one + ") = -2004 | count(1) = 8");
  }

  private static void figures() {
    doc.holds("a FIGURE (0 .. 9), by keep", """
        keep(0, 1, 2, 0) = 0 | keep(1, 1, 2, 9) = 0
        keep(0, 1, 2, 10) = -1 | keep(0, 1, 2, -1) = -1
        cost(0) = 4 | cost(1) = 13
        comes(0, 0, 0) = 0 | comes(1, 0, 0) = 1
        person(0, 1) = 0 | person(1, 1) = 9
        """);
    doc.holds("a FIGURE (0 .. 9), by a text", "tell(p200000;p290000;) = 2 | person(0, 1) = 0 | person(1, 1) = 9");
  }

  private static void hunger() {
    doc.holds("HUNGER (0 .. 30), by comes", """
        keep(0, 1, 0, 0)
        comes(0, -1, 5) = -1 | comes(0, 31, 5) = -1 | count(0) = 0
        comes(0, 0, 5) = 0 | comes(0, 30, 5) = 1
        person(0, 2) = 0 | person(1, 2) = 30
        """);
    doc.holds("HUNGER (0 .. 30), by feels", """
        tell(p000505;)
        feels(0, 0, -1) = -1 | feels(0, 0, 31) = -1 | person(0, 2) = 5
        feels(0, 0, 30) = 5 | person(0, 2) = 30
        feels(0, 0, 0) = 30 | person(0, 2) = 0
        """);
    doc.holds("HUNGER (0 .. 30), of who comes by a text", """
        tell(p003105;) = -2000 | tell(p009905;) = -2000 | count(0) = 0
        tell(p000005;p003005;) = 2 | person(0, 2) = 0 | person(1, 2) = 30
        """);
    doc.holds("HUNGER (0 .. 30), by a text", """
        tell(p000505;)
        tell(h031;) = -2000 | tell(h099;) = -2000 | person(0, 2) = 5
        tell(h030;) = 1 | person(0, 2) = 30
        tell(h000;) = 1 | person(0, 2) = 0
        """);
  }

  private static void wish() {
    doc.holds("a WISH to look (0 .. 30), by comes", """
        keep(0, 1, 0, 0)
        comes(0, 5, -1) = -1 | comes(0, 5, 31) = -1 | count(0) = 0
        comes(0, 5, 0) = 0 | comes(0, 5, 30) = 1
        person(0, 3) = 0 | person(1, 3) = 30
        """);
    doc.holds("a WISH to look (0 .. 30), by feels", """
        tell(p000505;)
        feels(0, 1, -1) = -1 | feels(0, 1, 31) = -1 | person(0, 3) = 5
        feels(0, 1, 30) = 5 | person(0, 3) = 30
        feels(0, 1, 0) = 30 | person(0, 3) = 0
        """);
    doc.holds("a WISH to look (0 .. 30), of who comes by a text", """
        tell(p000531;) = -2000 | tell(p000599;) = -2000 | count(0) = 0
        tell(p000500;p000530;) = 2 | person(0, 3) = 0 | person(1, 3) = 30
        """);
    doc.holds("a WISH to look (0 .. 30), by a text", """
        tell(p000505;)
        tell(l031;) = -2000 | tell(l099;) = -2000 | person(0, 3) = 5
        tell(l030;) = 1 | person(0, 3) = 30
        tell(l000;) = 1 | person(0, 3) = 0
        """);
  }

  /** 88 turns by a text told four times, and eleven more: the taster eats, the guest looks. */
  private static String turns99() {
    return "tell(p303030;p000000;c99;) = 3 | tell(h030;" + "t01;".repeat(22) + ") = 23\n"
        + "fete(7) = 23 | fete(7) = 23 | fete(7) = 23 | slices(99) = 11 | feels(0, 0, 30) = 8\n"
        + "eats(0, 1) = 1\n".repeat(11);
  }

  private static void eatenAndWatched() {
    doc.holds("EATEN (0 at first), WATCHED (0 at first)", """
        tell(p001010;) = 1
        person(0, 4) = 0 | person(0, 5) = 0
        keep(0, 1, 1, 0) | comes(0, 10, 10) = 1
        person(1, 4) = 0 | person(1, 5) = 0
        count(5) = 0 | count(6) = 3
        """);
    doc.holds("EATEN (slices; 0 .. 99), 99 at most", turns99() + """
        person(0, 4) = 99 | person(1, 4) = 0 | count(5) = 99
        eats(0, 1) = 1 | person(0, 4) = 99 | count(5) = 99
        count(2) = 100 | person(0, 2) = 18
        """);
    doc.holds("WATCHED (times; 0 .. 99), 99 at most", turns99() + """
        person(1, 5) = 99 | person(0, 5) = 0
        eats(0, 1) = 1 | person(1, 5) = 99
        count(2) = 100 | count(1) = 87
        """);
    doc.holds("EATEN, WATCHED 1 more up to 99, by a text", turns99()
        + "tell(t01;t01;) = 2 | person(0, 4) = 99 | person(1, 5) = 99 | count(2) = 101");
  }

  private static void slices() {
    doc.holds("SLICES (0 .. 99)", """
        slices(100) = -1 | slices(-1) = -1 | count(1) = 0
        slices(99) = 0 | count(1) = 99
        slices(100) = -1 | slices(-1) = -1 | count(1) = 99
        slices(0) = 99 | count(1) = 0
        """);
    doc.holds("SLICES (0 .. 99), by a text", "tell(c99;) = 1 | count(1) = 99 | tell(c00;) = 1 | count(1) = 0");
  }

  /** The taster has eaten 990 slices watched by the guest. */
  private static String steps990() {
    return "tell(p303030;p000000;) = 2 | tell(c99;h030;" + "t01;".repeat(22) + ") = 24\n"
        + "fete(7) = 24\n".repeat(44) + "count(2) = 990\n";
  }

  private static void step() {
    doc.holds("STEP (0 .. 999), of eats", steps990() + "feels(0, 0, 30) = 8\n" + "eats(0, 1) = 1\n".repeat(9) + """
        count(2) = 999 | image() = 999
        eats(0, 1) = -3 | count(2) = 999 | count(1) = 68 | person(0, 2) = 21
        """);
    doc.holds("STEP above 999, of a text", steps990() + "tell(h030;" + "t01;".repeat(10) + ") = -2041\n" + """
        count(2) = 990 | person(0, 2) = 8
        """ + "tell(h030;" + "t01;".repeat(9) + ") = 10\n" + """
        count(2) = 999
        tell(t01;) = -2000 | tell(c09;h030;t01;) = -2009 | tell(c09;h030;l105;) = 3
        count(2) = 999 | count(1) = 9
        """);
  }

  private static void kinds() {
    doc.holds("KINDS 0 .. 7, by keep", """
        keep(0, 1, 8, 0) = -1 | keep(0, 1, -1, 0) = -1 | cost(0) = -11
        keep(0, 1, 0, 0) = 0 | comes(0, 0, 0) = 0 | person(0, 0) = 0
        keep(0, 1, 7, 0) = 0 | comes(0, 0, 0) = 1 | person(1, 0) = 7
        """);
    doc.holds("KINDS 0 .. 7, by a text", """
        tell(p800000;) = -2000 | tell(p900000;) = -2000 | count(0) = 0
        tell(p000000;p700000;) = 2 | person(0, 0) = 0 | person(1, 0) = 7
        """);
    doc.holds("KINDS: 0 GUEST; 1 CHILD; 2 DEACON; 3 TASTER; 4 BLIND; 5 EXPERT; 6 TWIN; 7 COW", """
        tell(p000000;p100000;p200000;p300000;p400000;p500000;p600000;p700000;) = 8
        person(0, 0) = 0 | person(0, 6) = 3 | person(0, 7) = 2 | person(0, 8) = 0
        person(1, 0) = 1 | person(1, 6) = 5 | person(1, 7) = 1 | person(1, 8) = 1
        person(2, 0) = 2 | person(2, 6) = 3 | person(2, 7) = 4 | person(2, 8) = 1
        person(3, 0) = 3 | person(3, 6) = 1 | person(3, 7) = 2 | person(3, 8) = 0
        person(4, 0) = 4 | person(4, 6) = 3 | person(4, 7) = 0 | person(4, 8) = 0
        person(5, 0) = 5 | person(5, 6) = 2 | person(5, 7) = 4 | person(5, 8) = 0
        person(6, 0) = 6 | person(6, 6) = 2 | person(6, 7) = 1 | person(6, 8) = 2
        person(7, 0) = 7 | person(7, 6) = 9 | person(7, 7) = 0 | person(7, 8) = 0
        """);
  }

  /** What is answered for a kind with each figure from 0 to 9. */
  private static void byFigures(String sentence, int kind, int what, int... due) {
    for (int figure = 0; figure < 10; figure++) {
      doc.holds(sentence, "tell(p" + kind + figure + "0000;) | person(0, " + what + ") = " + due[figure]);
    }
  }

  private static void bites() {
    byFigures("BITE: GUEST 3", 0, 6, 3, 3, 3, 3, 3, 3, 3, 3, 3, 3);
    byFigures("BITE: CHILD 2 more", 1, 6, 5, 5, 5, 5, 5, 5, 5, 5, 5, 5);
    byFigures("BITE: DEACON FIGURE by 2, cut, more", 2, 6, 3, 3, 4, 4, 5, 5, 6, 6, 7, 7);
    byFigures("BITE: TASTER 1", 3, 6, 1, 1, 1, 1, 1, 1, 1, 1, 1, 1);
    byFigures("BITE: BLIND as GUEST", 4, 6, 3, 3, 3, 3, 3, 3, 3, 3, 3, 3);
    byFigures("BITE: EXPERT 1 more than a TASTER's", 5, 6, 2, 2, 2, 2, 2, 2, 2, 2, 2, 2);
    byFigures("BITE: TWIN half of a CHILD's, cut", 6, 6, 2, 2, 2, 2, 2, 2, 2, 2, 2, 2);
    byFigures("BITE: COW 9", 7, 6, 9, 9, 9, 9, 9, 9, 9, 9, 9, 9);
  }

  private static void gazes() {
    byFigures("GAZE: GUEST 2", 0, 7, 2, 2, 2, 2, 2, 2, 2, 2, 2, 2);
    byFigures("GAZE: CHILD 1 less", 1, 7, 1, 1, 1, 1, 1, 1, 1, 1, 1, 1);
    byFigures("GAZE: DEACON 2 more", 2, 7, 4, 4, 4, 4, 4, 4, 4, 4, 4, 4);
    byFigures("GAZE: TASTER FIGURE by 3, cut, more", 3, 7, 2, 2, 2, 3, 3, 3, 4, 4, 4, 5);
    byFigures("GAZE: BLIND 0", 4, 7, 0, 0, 0, 0, 0, 0, 0, 0, 0, 0);
    byFigures("GAZE: EXPERT twice a TASTER's", 5, 7, 4, 4, 4, 6, 6, 6, 8, 8, 8, 10);
    byFigures("GAZE: TWIN as CHILD", 6, 7, 1, 1, 1, 1, 1, 1, 1, 1, 1, 1);
    byFigures("GAZE: COW 0", 7, 7, 0, 0, 0, 0, 0, 0, 0, 0, 0, 0);
  }

  private static void shyness() {
    byFigures("SHY: GUEST 0", 0, 8, 0, 0, 0, 0, 0, 0, 0, 0, 0, 0);
    byFigures("SHY: CHILD 1", 1, 8, 1, 1, 1, 1, 1, 1, 1, 1, 1, 1);
    byFigures("SHY: DEACON 1", 2, 8, 1, 1, 1, 1, 1, 1, 1, 1, 1, 1);
    byFigures("SHY: TASTER as a GUEST", 3, 8, 0, 0, 0, 0, 0, 0, 0, 0, 0, 0);
    byFigures("SHY: BLIND as a GUEST", 4, 8, 0, 0, 0, 0, 0, 0, 0, 0, 0, 0);
    byFigures("SHY: EXPERT as a TASTER", 5, 8, 0, 0, 0, 0, 0, 0, 0, 0, 0, 0);
    byFigures("SHY: TWIN 1 more than a CHILD's", 6, 8, 2, 2, 2, 2, 2, 2, 2, 2, 2, 2);
    byFigures("SHY: COW as a GUEST", 7, 8, 0, 0, 0, 0, 0, 0, 0, 0, 0, 0);
  }

  private static void canEat() {
    doc.holds("One CAN EAT if there are SLICES", """
        tell(p000909;p000909;)
        joys(0, 1, 0) = -3 | eats(0, 1) = -3
        slices(1) = 0 | joys(0, 1, 0) = 5 | eats(0, 1) = 5
        count(1) = 0 | joys(0, 1, 0) = -3 | eats(0, 1) = -3
        """);
    doc.holds("if HUNGER is above 0", """
        tell(p000009;p000909;c09;)
        joys(0, 1, 0) = -3 | eats(0, 1) = -3
        feels(0, 0, 1) = 0 | joys(0, 1, 0) = 3 | eats(0, 1) = 3
        person(0, 2) = 0 | joys(0, 1, 0) = -3 | eats(0, 1) = -3
        """);
    doc.holds("watched by another one", "tell(p000909;c09;) | who(0) = 0 | eats(0, 0) = -1 | joys(0, 0, 0) = -1");
    doc.holds("the other one's EATEN is 0", """
        tell(p000909;p000909;p000909;c09;)
        eats(0, 1) = 5
        joys(2, 0, 0) = -3 | eats(2, 0) = -3
        joys(2, 1, 0) = 5 | joys(0, 2, 0) = 5
        """);
    doc.holds("who eats may have eaten", "tell(p000909;p000909;c09;) | eats(0, 1) = 5 | eats(0, 1) = 5 | eats(0, 1) = 5");
    doc.holds("the other one's KIND is not BLIND", """
        tell(p000909;p400909;p700909;p000000;c09;)
        joys(0, 1, 0) = -3 | eats(0, 1) = -3
        joys(1, 0, 0) = 5 | joys(0, 2, 0) = 3 | joys(0, 3, 0) = 3
        eats(1, 0) = 5 | eats(0, 2) = 3 | eats(0, 3) = 3
        """);
  }

  private static void joyOfWhoEats() {
    doc.holds("BITE, no more than HUNGER: one less", "tell(p000200;p000000;c09;) | joys(0, 1, 1) = 2 | eats(0, 1) = 2 | person(0, 2) = 0");
    doc.holds("BITE, no more than HUNGER: as much", "tell(p000300;p000000;c09;) | joys(0, 1, 1) = 3 | eats(0, 1) = 3 | person(0, 2) = 0");
    doc.holds("BITE, no more than HUNGER: one more", "tell(p000400;p000000;c09;) | joys(0, 1, 1) = 3 | eats(0, 1) = 3 | person(0, 2) = 1");
    doc.holds("less SHY (of who eats) times WATCHED (of who looks)", """
        tell(p300900;p000000;p103000;p203000;p603000;c99;)
        joys(2, 1, 1) = 5 | joys(3, 1, 1) = 3 | joys(4, 1, 1) = 2
        eats(0, 1) = 1
        joys(2, 1, 1) = 4 | joys(3, 1, 1) = 2 | joys(4, 1, 1) = 0
        eats(0, 1) = 1
        joys(2, 1, 1) = 3 | joys(3, 1, 1) = 1
        joys(0, 1, 1) = 1
        """);
    doc.holds("not SHY of who looks, nor WATCHED of who eats", """
        tell(p303000;p603000;p103000;c09;)
        eats(0, 1) = 1 | eats(0, 1) = 1 | eats(0, 2) = 1
        joys(0, 1, 1) = 1 | joys(1, 2, 1) = 0 | joys(2, 1, 1) = 3
        """);
    doc.holds("0 at least", """
        tell(p303000;p000000;p103000;p603000;c99;t01;t01;t01;t01;)
        joys(2, 1, 1) = 1 | joys(3, 1, 1) = 0
        eats(0, 1) = 1 | joys(2, 1, 1) = 0
        eats(0, 1) = 1 | joys(2, 1, 1) = 0 | joys(2, 1, 0) = 0 | eats(2, 1) = 0
        """);
    doc.holds("what HUNGER it stills, less SHY", """
        tell(p303000;p000000;p100300;c99;t01;t01;)
        joys(2, 1, 1) = 1
        eats(0, 1) = 1 | joys(2, 1, 1) = 0 | eats(2, 1) = 0 | person(2, 2) = 0
        """);
    doc.holds("so much stilled (SHY aside)", """
        tell(p303000;p000000;p103000;p603000;c99;t01;t01;t01;)
        eats(2, 1) = 2 | person(2, 2) = 25
        eats(3, 1) = 0 | person(3, 2) = 28
        """);
  }

  private static void joyOfWhoLooks() {
    doc.holds("GAZE, no more than WISH: none", "tell(p303000;p000000;c09;) | joys(0, 1, 2) = 0 | eats(0, 1) = 1 | person(1, 3) = 0");
    doc.holds("GAZE, no more than WISH: one less", "tell(p303000;p000001;c09;) | joys(0, 1, 2) = 1 | eats(0, 1) = 2 | person(1, 3) = 0");
    doc.holds("GAZE, no more than WISH: as much", "tell(p303000;p000002;c09;) | joys(0, 1, 2) = 2 | eats(0, 1) = 3 | person(1, 3) = 0");
    doc.holds("GAZE, no more than WISH: one more", "tell(p303000;p000003;c09;) | joys(0, 1, 2) = 2 | eats(0, 1) = 3 | person(1, 3) = 1");
    doc.holds("who looks is not shy", "tell(p303000;p603009;c09;t01;t01;) | joys(0, 1, 2) = 1 | eats(0, 1) = 2");
  }

  private static void turns() {
    doc.holds("EATEN, WATCHED 1 more, SLICES 1 less, STEP 1 more", """
        tell(p001010;p001010;p001010;c09;)
        eats(0, 1) = 5
        person(0, 4) = 1 | person(0, 5) = 0 | person(1, 4) = 0 | person(1, 5) = 1
        person(2, 4) = 0 | person(2, 5) = 0
        count(1) = 8 | count(2) = 1
        person(0, 2) = 7 | person(0, 3) = 10 | person(1, 2) = 10 | person(1, 3) = 8
        eats(1, 2) = 5
        person(1, 4) = 1 | person(1, 5) = 1 | person(2, 5) = 1
        count(1) = 7 | count(2) = 2
        """);
    doc.holds("JOYS of a TURN: both together", """
        tell(p701010;p591010;c09;)
        joys(0, 1, 0) = 19 | joys(0, 1, 1) = 9 | joys(0, 1, 2) = 10
        eats(0, 1) = 19 | eats(0, 1) = 1
        """);
    doc.holds("the last of 99 SLICES", "tell(p303000;p000000;c99;) | tell(" + "t01;".repeat(25) + ") = 25 | fete(7) = -2020\n"
        + "feels(0, 0, 30) = 5 | fete(7) = 25 | feels(0, 0, 30) = 5 | fete(7) = 25 | feels(0, 0, 30) = 5\n"
        + "fete(7) = -2096 | count(1) = 24 | tell(" + "t01;".repeat(24) + ") = 24 | count(1) = 0 | eats(0, 1) = -3");
  }

  private static void forms() {
    doc.holds("STATEMENTS, one at least", "row(0, 0, 0) | fete(0) = -1000 | tell() = -1000 | tell(c05;) = 1");
    doc.holds("each with \";\" behind", "tell(c05) = -1003 | tell(c05;c06) = -1007 | tell(c05,) = -1003 | count(1) = 0 | tell(c05;c06;) = 2");
    doc.holds("\"p\" KIND, FIGURE (a digit each), HUNGER, WISH (2 digits each): one more", """
        tell(p261203;) = 1 | count(0) = 1
        person(0, 0) = 2 | person(0, 1) = 6 | person(0, 2) = 12 | person(0, 3) = 3
        tell(p000902;) = 1 | count(0) = 2 | person(1, 2) = 9 | person(1, 3) = 2
        """);
    doc.holds("\"c\" SLICES (2 digits): so many there are", "tell(c12;) = 1 | count(1) = 12 | tell(c03;c40;) = 2 | count(1) = 40");
    doc.holds("\"t\" one, another one (a digit each): a TURN, the first eats", """
        tell(p001010;p001010;c09;t10;) = 4
        person(1, 4) = 1 | person(0, 5) = 1 | person(0, 4) = 0 | person(1, 5) = 0
        count(1) = 8 | count(2) = 1 | person(1, 2) = 7 | person(0, 3) = 8
        """);
    doc.holds("\"h\" one (a digit), HUNGER (2 digits): it is that", """
        tell(p001010;p001010;h123;) = 3
        person(0, 2) = 10 | person(1, 2) = 23 | person(1, 3) = 10
        """);
    doc.holds("\"l\" one (a digit), WISH (2 digits): it is that", """
        tell(p001010;p001010;l123;) = 3
        person(0, 3) = 10 | person(1, 3) = 23 | person(1, 2) = 10
        """);
    doc.holds("how many STATEMENTS", "tell(c05;) = 1 | tell(c05;c06;) = 2 | tell(" + "c07;".repeat(25) + ") = 25 | count(1) = 7");
  }

  private static void numbersOfDigits() {
    doc.holds("numbers in THE TEXT have just as many digits as told: fewer", """
        tell(p001203;) = 1
        tell(p00123;) = -1006 | tell(p0012;) = -1005 | tell(p;) = -1001
        tell(c5;) = -1002 | tell(c;) = -1001
        tell(t0;) = -1002 | tell(t;) = -1001
        tell(h05;) = -1003 | tell(h0;) = -1002 | tell(h;) = -1001
        tell(l05;) = -1003 | tell(l0;) = -1002 | tell(l;) = -1001
        """);
    doc.holds("numbers in THE TEXT have just as many digits as told: more", """
        tell(p001203;) = 1
        tell(p0012030;) = -1007 | tell(c005;) = -1003 | tell(t010;) = -1003
        tell(h0005;) = -1004 | tell(l0005;) = -1004
        """);
    doc.holds("digits alone", """
        tell(p+01203;) = -1001 | tell(p0-1203;) = -1002 | tell(p00 203;) = -1003
        tell(c-5;) = -1001 | tell(c+5;) = -1001 | tell(c 5;) = -1001 | tell(c0:;) = -1002 | tell(c0/;) = -1002
        """);
    doc.holds("letters as told", """
        tell(P001203;) = -1000 | tell(C05;) = -1000 | tell(T01;) = -1000 | tell(H000;) = -1000 | tell(L000;) = -1000
        tell(a05;) = -1000 | tell(;) = -1000 | tell(0) = -1000 | tell( c05;) = -1000 | tell(c05; ) = -1004
        """);
  }

  private static void placesOfFaults() {
    doc.holds("the end, if something lacks", """
        tell(p) = -1001 | tell(p0) = -1002 | tell(p00) = -1003 | tell(p001) = -1004
        tell(p0012) = -1005 | tell(p00120) = -1006 | tell(p001203) = -1007
        tell(c) = -1001 | tell(c0) = -1002 | tell(c05) = -1003
        tell(t) = -1001 | tell(t0) = -1002 | tell(t01) = -1003
        tell(h) = -1001 | tell(h0) = -1002 | tell(h00) = -1003 | tell(h000) = -1004
        tell(l) = -1001 | tell(l0) = -1002 | tell(l00) = -1003 | tell(l000) = -1004
        """);
    doc.holds("the end of 100 bytes", "tell(" + "c05;".repeat(24) + "c055) = -1099 | tell(" + "c05;".repeat(24) + "h000) = -1100");
    doc.holds("the first byte with which no FETE can go on", """
        tell(c05;x) = -1004 | tell(c05;;) = -1004 | tell(xc05;) = -1000 | tell(c05;c0x;y) = -1006
        """);
    doc.holds("a byte below 0", "hold(0, 0, 99, 48, 53, 187) | fete(0) = -1003 | hold(0, 0, 227, 48, 53, 59) | fete(0) = -1000");
    doc.holds("a byte 0", "row(0, 0, 1) | fete(0) = -1000 | hold(0, 0, 99, 48, 53, 59, 0) | fete(0) = -1004");
  }

  private static void kind2() {
    doc.holds("kind 1, else kind 2", """
        tell(p900000;x) = -1008 | tell(t00;c0) = -1006 | tell(h000;l) = -1006 | tell(p900000;) = -2000
        """);
    doc.holds("a number out of range", """
        tell(c05;p800000;) = -2004 | tell(c05;p003100;) = -2004 | tell(c05;p000031;) = -2004
        tell(p000000;h031;) = -2008 | tell(p000000;l031;) = -2008 | count(0) = 0
        """);
    doc.holds("no such one", """
        tell(p000909;c05;)
        tell(t10;) = -2000 | tell(t01;) = -2000 | tell(t90;) = -2000 | tell(t09;) = -2000
        tell(h100;) = -2000 | tell(l100;) = -2000 | tell(h900;) = -2000 | tell(l900;) = -2000
        tell(p000909;) = 1
        tell(t10;) = 1 | tell(h109;) = 1 | tell(l109;) = 1
        tell(t12;) = -2000 | tell(h200;) = -2000 | tell(l200;) = -2000
        """);
    doc.holds("one twice", "tell(p000909;p000909;c05;) | tell(t00;) = -2000 | tell(c04;t11;) = -2004 | count(1) = 5");
    doc.holds("one who CAN not EAT so: no SLICES", "tell(p000909;p000909;) | tell(t01;) = -2000 | tell(c01;t01;t01;) = -2008 | tell(c01;t01;) = 2");
    doc.holds("one who CAN not EAT so: no HUNGER", "tell(p000009;p000909;c05;) | tell(t01;) = -2000 | tell(h003;t01;t01;) = -2009 | tell(h001;t01;) = 2");
    doc.holds("one who CAN not EAT so: watched by a BLIND one", "tell(p000909;p400909;c05;) | tell(t01;) = -2000 | tell(t10;) = 1");
    doc.holds("one who CAN not EAT so: watched by one who has eaten", "tell(p000909;p000909;c05;t01;) | tell(t10;) = -2000 | tell(t01;) = 1");
    doc.holds("a TURN with JOYS 0 is a TURN", "tell(p603000;p000000;c09;t01;t01;) = 5 | person(0, 4) = 2 | person(0, 2) = 26 | count(1) = 7 | eats(0, 1) = 0");
    doc.holds("no room", "tell(" + "p000000;".repeat(7) + ") = 7 | tell(c05;p000000;p000000;) = -2012 | count(0) = 7 | tell(c05;p000000;) = 2");
    doc.holds("the place of the letter of the first STATEMENT", """
        tell(h000;t00;p900000;) = -2000 | tell(c05;t00;h000;) = -2004 | tell(p000000;c05;l031;h031;) = -2012
        """);
    doc.holds("each on what those ahead of it made", """
        tell(c02;p000909;p000909;t01;h100;t10;) = -2029 | tell(c02;p000909;p000909;t01;h002;t01;) = 6
        person(0, 2) = 0 | count(1) = 0 | tell(t01;) = -2000 | tell(c01;h001;t01;) = 3
        """);
  }

  private static void allOrNothing() {
    doc.holds("with a FAULT of kind 1 nothing comes", """
        tell(p001010;p001010;c07;t01;)
        tell(p000000;c99;h001;l101;t01;x) = -1026
        count(0) = 2 | count(1) = 6 | count(2) = 1 | person(0, 2) = 7 | person(1, 3) = 8 | person(0, 4) = 1
        """);
    doc.holds("with a FAULT of kind 2 nothing comes", """
        tell(p001010;p001010;c07;t01;)
        tell(p000000;c99;h001;l101;t01;t10;) = -2026
        count(0) = 2 | count(1) = 6 | count(2) = 1 | person(0, 2) = 7 | person(1, 3) = 8 | person(0, 4) = 1
        """);
    doc.holds("without FAULT all of it comes", """
        tell(p001010;p001010;c07;t01;)
        tell(p000000;c99;h005;l101;t01;) = 5
        count(0) = 3 | count(1) = 98 | count(2) = 2 | person(0, 2) = 2 | person(1, 3) = 0 | person(0, 4) = 2
        """);
    doc.holds("the ROW of a text stays there", """
        tell(c05;) = 1 | element(7, 0) = 99 | element(7, 3) = 59 | throat(7, 0, 0, 0) = 0 | slices(9) = 5 | fete(7) = 1 | count(1) = 5
        tell(t00;) = -2000 | element(7, 0) = 116 | element(7, 3) = 59
        tell(c0) = -1002 | element(7, 1) = 48
        """);
  }

  private static void fete() {
    doc.holds("Promise 2: -1", "fete(-1) = -1 | fete(8) = -1 | fete(-2147483648) = -1 | fete(2147483647) = -1");
    doc.holds("Promise 2: -11", "fete(0) = -11 | fete(7) = -11");
    doc.holds("Promise 2: -12 (no ROW of bytes): a KIND", "keep(0, 1, 0, 0) | fete(0) = -12");
    doc.holds("Promise 2: -12 (no ROW of bytes): shorts", "hold(0, 1, 99, 48, 53, 59) | fete(0) = -12 | row(0, 1, 0) | fete(0) = -12");
    doc.holds("Promise 2: -12 (no ROW of bytes): ints", "hold(0, 2, 99, 48, 53, 59) | fete(0) = -12 | row(0, 2, 0) | fete(0) = -12");
    doc.holds("Promise 2: bytes, on the first and the last SHELF", """
        hold(0, 0, 99, 48, 53, 59) | fete(0) = 1 | count(1) = 5
        hold(7, 0, 99, 48, 54, 59) | fete(7) = 1 | count(1) = 6
        """);
  }

  private static void person() {
    doc.holds("Promise 3: what 0 .. 8", """
        tell(p290807;p001009;c09;t01;)
        person(0, 0) = 2 | person(0, 1) = 9 | person(0, 2) = 1 | person(0, 3) = 7 | person(0, 4) = 1
        person(0, 5) = 0 | person(0, 6) = 7 | person(0, 7) = 4 | person(0, 8) = 1
        person(1, 5) = 1 | person(0, -1) = -1 | person(0, 9) = -1
        """);
    doc.holds("Promise 3: no such one", """
        person(0, 0) = -1 | person(-1, 0) = -1
        tell(p000000;) | person(0, 0) = 0 | person(1, 0) = -1 | person(-1, 0) = -1 | person(2147483647, 0) = -1
        person(-2147483648, 0) = -1
        """);
    doc.holds("Promise 3: BITE and GAZE, whatever HUNGER and WISH", "tell(p000101;) | person(0, 6) = 3 | person(0, 7) = 2");
  }

  private static void comes() {
    doc.holds("Promise 4: -1, no such SHELF", "keep(0, 1, 0, 0) | comes(-1, 5, 5) = -1 | comes(8, 5, 5) = -1 | comes(0, 5, 5) = 0");
    doc.holds("Promise 4: the first and the last SHELF", "keep(0, 1, 1, 0) | keep(7, 1, 2, 0) | comes(7, 5, 5) = 0 | comes(0, 5, 5) = 1 | person(0, 0) = 2 | person(1, 0) = 1");
    doc.holds("Promise 4: -11", "comes(0, 5, 5) = -11 | keep(0, 1, 0, 0) | keep(0, 0, 0, 0) | comes(0, 5, 5) = -11");
    doc.holds("Promise 4: -12 (a ROW)", "row(0, 0, 1) | comes(0, 5, 5) = -12 | row(0, 2, 0) | comes(0, 5, 5) = -12");
    doc.holds("Promise 4: -2", "tell(" + "p000000;".repeat(8) + ") | keep(0, 1, 0, 0) | comes(0, 5, 5) = -2");
    doc.holds("Promise 4: what is taken from a SHELF stays there", "keep(0, 1, 5, 7) | comes(0, 5, 5) = 0 | cost(0) = 17 | comes(0, 5, 5) = 1 | person(1, 1) = 7");
    doc.holds("Promise 4: who came stays, whatever the SHELF gets", "keep(0, 1, 5, 7) | comes(0, 5, 5) = 0 | keep(0, 1, 2, 1) | person(0, 0) = 5 | person(0, 1) = 7 | row(0, 0, 1) | person(0, 0) = 5");
  }

  private static void feels() {
    doc.holds("Promise 5: what it was", "tell(p001203;) | feels(0, 0, 7) = 12 | feels(0, 0, 7) = 7 | feels(0, 1, 8) = 3 | feels(0, 1, 8) = 8");
    doc.holds("Promise 5: what 0, 1", "tell(p001203;) | feels(0, -1, 7) = -1 | feels(0, 2, 7) = -1 | person(0, 2) = 12 | person(0, 3) = 3");
    doc.holds("Promise 5: no such one", "feels(0, 0, 7) = -1 | tell(p001203;) | feels(-1, 0, 7) = -1 | feels(1, 0, 7) = -1 | feels(1, 1, 7) = -1 | feels(0, 0, 7) = 12");
    doc.holds("Promise 5: the last of eight", "tell(" + "p000102;".repeat(8) + ") | feels(7, 0, 30) = 1 | feels(7, 1, 30) = 2 | feels(8, 0, 30) = -1 | person(6, 2) = 1");
  }

  private static void slicesBecome() {
    doc.holds("Promise 6: what they were", "slices(3) = 0 | slices(3) = 3 | slices(99) = 3 | slices(0) = 99 | slices(1) = 0");
    doc.holds("Promise 6: -1", "slices(5) | slices(-1) = -1 | slices(100) = -1 | slices(2147483647) = -1 | slices(-2147483648) = -1 | count(1) = 5");
  }

  private static void eats() {
    doc.holds("Promise 7: -1, no such one", """
        tell(p000909;p000909;c09;)
        eats(-1, 0) = -1 | eats(0, -1) = -1 | eats(2, 0) = -1 | eats(0, 2) = -1 | eats(2, 2) = -1
        """);
    doc.holds("Promise 7: -1, one twice", "tell(p000909;p000909;c09;) | eats(0, 0) = -1 | eats(1, 1) = -1 | eats(1, 0) = 5");
    doc.holds("Promise 7: -3", """
        tell(p000909;p400909;p000009;c09;)
        eats(0, 1) = -3 | eats(2, 0) = -3 | eats(0, 2) = 5 | eats(1, 0) = -3
        slices(0) | eats(0, 2) = -3
        """);
    doc.holds("Promise 7: of the first and the last of eight", "tell(" + "p000909;".repeat(8) + "c09;) | eats(0, 7) = 5 | eats(7, 6) = 5 | eats(8, 6) = -1 | eats(1, 8) = -1");
  }

  private static void joys() {
    doc.holds("Promise 8: what 0 .. 2", "tell(p000909;p000909;c09;) | joys(0, 1, 0) = 5 | joys(0, 1, 1) = 3 | joys(0, 1, 2) = 2 | joys(0, 1, -1) = -1 | joys(0, 1, 3) = -1");
    doc.holds("Promise 8: -1, no such one, one twice", """
        tell(p000909;p000909;c09;)
        joys(-1, 0, 0) = -1 | joys(0, -1, 0) = -1 | joys(2, 0, 0) = -1 | joys(0, 2, 0) = -1
        joys(0, 0, 0) = -1 | joys(1, 1, 0) = -1
        """);
    doc.holds("Promise 8: -3", """
        tell(p000909;p400909;p000009;c09;)
        joys(0, 1, 0) = -3 | joys(0, 1, 1) = -3 | joys(0, 1, 2) = -3 | joys(2, 0, 0) = -3
        slices(0) | joys(0, 2, 0) = -3
        """);
  }
}
