/** "Answers of several REFUSALS are the first one as they are told at the call", call by call; "nothing changes". */
public final class RefusalsTest {
  private static final Sentences doc = new Sentences();
  private static final String EIGHT = "tell(" + "p000909;".repeat(8) + "c09;) = 9\n";
  private static final String THREE = """
      tell(p001212;p291313;p401414;c40;) | image() = 0 | tell(t01;t21;c07;)
      keep(1, 1, 5, 7) | hold(2, 0, 99, 48, 53, 59) | hold(3, 1, 0, 1) | hold(4, 2, 5, -3, 7) | row(5, 0, 0)
      """;

  public static void main(String[] args) {
    first();
    firstOfShelves();
    ofPeople();
    ofNumbers();
    ofFaults();
    ofShelves();
    ofRows();
    asksChangeNothing();
    doc.end();
  }

  private static void first() {
    doc.holds("comes: -1 before -11, -12, -2", """
        comes(0, 31, 5) = -1 | comes(0, 5, -1) = -1 | row(0, 0, 1) | comes(0, -1, 5) = -1 | comes(0, 5, 31) = -1
        comes(8, 5, 5) = -1
        """);
    doc.holds("comes: -1, -11, -12 before -2", EIGHT + "comes(0, 5, 5) = -11 | comes(0, 5, 31) = -1 | comes(8, 5, 5) = -1 | row(0, 0, 1) | comes(0, 5, 5) = -12 | keep(0, 1, 0, 0) | comes(0, 31, 5) = -1 | comes(0, 5, 5) = -2");
    doc.holds("eats: -1 before -3", "tell(p000009;p400009;) | eats(0, 0) = -1 | eats(0, 2) = -1 | eats(2, 1) = -1 | eats(0, 1) = -3");
    doc.holds("joys: -1 before -3", "tell(p000009;p400009;) | joys(0, 0, 0) = -1 | joys(0, 2, 0) = -1 | joys(0, 1, 3) = -1 | joys(0, 1, -1) = -1 | joys(0, 1, 0) = -3");
    doc.holds("bestPair: -1, though there is none", "bestPair(2) = -1 | bestPair(-1) = -1 | bestPair(0) = -4");
    doc.holds("bestLooker: -1, though there is none", "bestLooker(0) = -1 | tell(p000000;) | bestLooker(1) = -1 | bestLooker(0) = -4");
    doc.holds("twoTurns: -1, though there is none", "twoTurns(2) = -1 | twoTurns(-1) = -1 | twoTurns(1) = -4");
    doc.holds("atAll: -1, though there is none", "atAll(2) = -1 | atAll(-1) = -1 | atAll(1) = -4");
    doc.holds("bring: -1, though there is none", "bring(10) = -1 | bring(-1) = -1 | bring(0) = -4");
    doc.holds("fetes: -1 before -3", "fetes(0, 1, 0) = -1 | fetes(21, 1, 0) = -1 | fetes(1, 1, 2) = -1 | fetes(1, 1, -1) = -1 | fetes(1, 1, 0) = -3");
  }

  private static void firstOfShelves() {
    doc.holds("throat: -1 before -11, -12", """
        throat(0, 31, 0, 0) = -1 | throat(0, -1, 0, 0) = -1 | throat(0, 5, 10, 0) = -1 | throat(0, 5, -1, 0) = -1
        throat(0, 5, 0, 2) = -1 | throat(0, 5, 0, -1) = -1 | throat(0, 5, 0, 0) = -11
        keep(0, 1, 0, 0) | throat(0, 31, 0, 0) = -1 | throat(0, 5, 10, 0) = -1 | throat(0, 5, 0, 2) = -1 | throat(0, 5, 0, 0) = -12
        """);
    doc.holds("row: -1 before -14", "row(8, 0, -1) = -1 | row(-1, 0, -1) = -1 | row(0, 3, -1) = -1 | row(0, -1, -1) = -1 | row(0, 0, -1) = -14");
    doc.holds("put: -1, -11, -12 before -13", "put(8, -1, 0) = -1 | put(0, -1, 0) = -11 | put(0, 100, 0) = -11 | keep(0, 1, 0, 0) | put(0, -1, 0) = -12 | row(0, 0, 1) | put(0, -1, 0) = -13");
    doc.holds("element: no such SHELF before no such place", "element(8, -1) = throws.IllegalArgumentException | element(-1, 101) = throws.IllegalArgumentException");
    doc.holds("copy: -1 before -11, -12, -13", "copy(8, 0, 0, 0, -1) = -1 | copy(0, 0, 8, 0, -1) = -1 | copy(0, 0, -1, 0, 1) = -1 | keep(0, 1, 0, 0) | copy(0, -1, 8, 0, 1) = -1 | copy(-1, 0, 0, 0, -1) = -1");
    doc.holds("copy: -11 (either) before -12, -13", "keep(0, 1, 0, 0) | copy(0, 0, 1, 0, 1) = -11 | copy(1, 0, 0, 0, 1) = -11 | row(0, 0, 1) | copy(0, 0, 1, 0, -1) = -11 | copy(1, 5, 0, 0, 1) = -11");
    doc.holds("copy: -12 before -13", "keep(0, 1, 0, 0) | row(1, 0, 1) | row(2, 1, 1) | copy(0, 0, 1, 0, -1) = -12 | copy(1, 0, 0, 9, 1) = -12 | copy(1, 9, 2, 0, 1) = -12 | copy(1, 0, 2, 0, -1) = -12");
    doc.holds("toss: -11, -12 before -15", "toss(0) = -11 | row(0, 0, 1) | toss(0) = -12 | keep(0, 1, 4, 5) | toss(0) = -15");
    doc.holds("keep: -1 of a SHELF, whatever what is", "keep(8, 0, 0, 0) = -1 | keep(-1, 0, 0, 0) = -1 | keep(8, 2, 9, 10) = -1");
  }

  /** That nothing changes is looked at after each run of calls. */
  private static void ofPeople() {
    doc.holds("refused, nothing changes: fete", THREE + "fete(-1) = -1 | fete(8) = -1 | fete(0) = -11 | fete(1) = -12 | fete(3) = -12 | fete(4) = -12 | fete(5) = -1000");
    doc.holds("refused, nothing changes: comes", THREE + "comes(8, 5, 5) = -1 | comes(1, 31, 5) = -1 | comes(1, 5, 31) = -1 | comes(0, 5, 5) = -11 | comes(2, 5, 5) = -12");
    doc.holds("refused, nothing changes: comes without room", EIGHT + "keep(1, 1, 5, 7) | comes(1, 30, 30) = -2");
    doc.holds("refused, nothing changes: feels", THREE + "feels(3, 0, 1) = -1 | feels(-1, 0, 1) = -1 | feels(0, 2, 1) = -1 | feels(0, -1, 1) = -1 | feels(1, 0, 31) = -1 | feels(1, 1, -1) = -1 | feels(1, 1, 31) = -1");
    doc.holds("refused, nothing changes: slices", THREE + "slices(-1) = -1 | slices(100) = -1");
    doc.holds("refused, nothing changes: eats", THREE + "eats(0, 0) = -1 | eats(3, 0) = -1 | eats(0, 3) = -1 | eats(1, 0) = -3 | eats(0, 2) = -3 | eats(1, 2) = -3");
    doc.holds("refused, nothing changes: restore", "tell(p001212;c05;) | restore() = -3");
    doc.holds("refused, nothing changes: person, count", THREE + "person(3, 0) = -1 | person(0, 9) = -1 | count(7) = -1");
  }

  private static void ofNumbers() {
    doc.holds("refused, nothing changes: who with whom", THREE + """
        joys(0, 0, 0) = -1 | joys(1, 0, 0) = -3 | who(2) = -1 | bestPair(2) = -1 | bestLooker(3) = -1 | twoTurns(2) = -1
        pairs(3) = -1 | pairs(-2) = -1 | greedily(31, 0) = -1 | atAll(2) = -1 | bring(10) = -1 | feeds(3) = -1
        """);
    doc.holds("refused, nothing changes: prices, swaps, throats", THREE + """
        prices(32, 0) = -1 | clears(32) = -1 | swap(8) = -1 | swap(0) = -11 | swap(1) = -12 | swap(4) = -13 | swap(2) = -13
        throat(8, 5, 0, 0) = -1 | throat(3, 31, 0, 0) = -1 | throat(0, 5, 0, 0) = -11 | throat(1, 5, 0, 0) = -12
        """);
    doc.holds("refused, nothing changes: the last ones, shares, crowds", THREE + """
        lastOnes(100, 1, 0) = -1 | shares(3) = -1 | shares(-2) = -1 | crowd(9, 2, 0, 0) = 1000000001 | mean(2) = 1000000001
        seen(8) = -1
        """);
    doc.holds("refused, nothing changes: told turns, fetes by seeds", THREE + """
        forged(8) = -1 | forged(0) = -11 | forged(1) = -12 | forged(4) = -13 | judge(8) = -1 | judge(0) = -11 | judge(1) = -12
        fetes(21, 1, 0) = -1
        """);
  }

  private static void ofFaults() {
    doc.holds("with a FAULT nothing comes, and nothing else changes", THREE + """
        tell(p000000;c99;h030;l130;t01;c0x;) = -1028
        tell(p000000;c99;h030;l130;t01;t10;) = -2026
        tell(c99;h030;p900000;) = -2009
        """);
  }

  private static void ofShelves() {
    doc.holds("refused, nothing changes: keep", THREE + "keep(8, 1, 0, 0) = -1 | keep(1, 2, 0, 0) = -1 | keep(1, 1, 8, 0) = -1 | keep(1, 1, 0, 10) = -1 | keep(0, 1, -1, 0) = -1 | keep(2, 1, 0, -1) = -1");
    doc.holds("refused, nothing changes: row", THREE + "row(8, 0, 1) = -1 | row(1, 3, 1) = -1 | row(2, 0, 101) = -1 | row(3, 0, -1) = -14 | row(0, 0, -1) = -14 | row(1, 0, 101) = -1 | row(5, 2, -1) = -14");
    doc.holds("refused, nothing changes: cost, toss", THREE + "cost(8) = -1 | cost(0) = -11 | cost(2) = -12 | toss(8) = -1 | toss(0) = -11 | toss(2) = -12 | keep(6, 1, 4, 9) | toss(6) = -15");
  }

  private static void ofRows() {
    doc.holds("refused, nothing changes: put", THREE + "put(8, 0, 1) = -1 | put(0, 0, 1) = -11 | put(1, 0, 1) = -12 | put(2, 4, 1) = -13 | put(2, -1, 1) = -13 | put(5, 0, 1) = -13");
    doc.holds("refused, nothing changes: copy", THREE + """
        copy(8, 0, 2, 0, 1) = -1 | copy(0, 0, 2, 0, 1) = -11 | copy(2, 0, 0, 0, 1) = -11 | copy(1, 0, 2, 0, 1) = -12
        copy(2, 0, 1, 0, 1) = -12 | copy(2, 0, 3, 0, 1) = -12 | copy(2, 0, 5, 0, 1) = -13 | copy(2, 0, 2, 1, 4) = -13
        copy(2, 1, 2, 0, 4) = -13 | copy(2, 0, 2, 1, -1) = -13
        """);
    doc.holds("refused, nothing changes: element", THREE + """
        element(8, 0) = throws.IllegalArgumentException | element(0, 0) = throws.IllegalStateException
        element(1, 0) = throws.IllegalStateException | element(2, 4) = throws.IllegalStateException
        """);
  }

  private static void asksChangeNothing() {
    doc.holds("what only asks changes nothing: who with whom", THREE + """
        joys(0, 1, 0) | who(0) | who(1) | bestPair(0) | bestPair(1) | bestLooker(0) | twoTurns(0) | twoTurns(1) | pairs(-1)
        pairs(0) | pairs(1) | greedily(30, 0) | greedily(30, 1) | atAll(0) | atAll(1) | stuck() | bring(0) | bring(9) = 5 | feeds(1)
        """);
    doc.holds("what only asks changes nothing: all others", THREE + """
        prices(3, 0) | prices(3, 1) | clears(3) | swap(3) = -4 | throat(4, 5, 0, 0) | lastOnes(9, 3, 1) | shares(0) | shares(-1)
        crowd(8, 2, 1, 0) | mean(0) | mean(1) | joyless() | seen(1) | forged(3) = -4 | judge(4) = 0 | fetes(20, 77, 0)
        fetes(20, 77, 1) | cost(1) | toss(1) | element(4, 0) | count(3) | person(1, 2)
        """);
    doc.holds("what is taken from a SHELF stays there", THREE + """
        fete(2) = 1 | element(2, 0) = 99 | element(2, 3) = 59 | comes(1, 5, 5) = 3 | cost(1) = 17 | toss(1) = 217
        swap(3) = -4 | forged(3) = -4 | judge(3) = 0 | throat(3, 1, 0, 0) = 0 | element(3, 0) = 0 | element(3, 1) = 1
        """);
  }
}
