/** Promises 1 to 8: the fete as told. */
public final class PeopleTest {
  private static final Check check = new Check();

  public static void main(String[] args) {
    aNewObject();
    theTextComes();
    theTextAddsToWhatThereIs();
    faultsOfForm();
    faultsOfSense();
    withAFaultNothingComes();
    refusalsOfFete();
    numbersOfOne();
    numbersOfKinds();
    onesCome();
    onesFeel();
    slicesBecome();
    turnsAreMade();
    turnsAreRefused();
    timesStayAt99();
    joysOfTurns();
    theStepEndsAt999();
    check.end();
  }

  private static void aNewObject() {
    CakesToTheWatched x = new CakesToTheWatched();
    for (int what = 0; what <= 6; what++) {
      check.due("new count " + what, x.count(what), 0);
    }
    check.due("new person", x.person(0, 0), -1);
    check.due("new restore", x.restore(), -3);
    for (int d = 0; d < 8; d++) {
      check.due("new shelf " + d, x.cost(d), -11);
    }
  }

  private static void theTextComes() {
    CakesToTheWatched x = new CakesToTheWatched();
    check.due("fete", Check.tell(x, "p001203;p290408;c05;t01;h130;l017;"), 6);
    check.due("people", x.count(0), 2);
    check.due("slices", x.count(1), 4);
    check.due("step", x.count(2), 1);
    check.due("hunger 0", x.person(0, 2), 9);
    check.due("wish 0", x.person(0, 3), 17);
    check.due("eaten 0", x.person(0, 4), 1);
    check.due("kind 1", x.person(1, 0), 2);
    check.due("figure 1", x.person(1, 1), 9);
    check.due("hunger 1", x.person(1, 2), 30);
    check.due("wish 1", x.person(1, 3), 4);
    check.due("watched 1", x.person(1, 5), 1);
    check.due("the row stays", x.element(7, 0), 'p');
    check.due("one statement", Check.tell(x, "c00;"), 1);
    check.due("no slices", x.count(1), 0);
    check.due("hundred bytes", Check.tell(x, "c01;".repeat(25)), 25);
    check.due("hunger 0, wish 30", Check.tell(x, "p000030;p003000;"), 2);
  }

  private static void theTextAddsToWhatThereIs() {
    CakesToTheWatched x = Check.of("p001010;c09;");
    check.due("more", Check.tell(x, "p101111;"), 1);
    check.due("people", x.count(0), 2);
    check.due("slices stay", x.count(1), 9);
    check.due("first stays", x.person(0, 2), 10);
  }

  private static void faultsOfForm() {
    CakesToTheWatched x = new CakesToTheWatched();
    check.due("empty", Check.tell(x, ""), -1000);
    check.due("no letter", Check.tell(x, "q"), -1000);
    check.due("large letter", Check.tell(x, "C01;"), -1000);
    check.due("space", Check.tell(x, " c01;"), -1000);
    check.due("letter alone", Check.tell(x, "c"), -1001);
    check.due("no digit", Check.tell(x, "c0x;"), -1002);
    check.due("below the digits", Check.tell(x, "c0/;"), -1002);
    check.due("too early", Check.tell(x, "c1;"), -1002);
    check.due("too late", Check.tell(x, "c123;"), -1003);
    check.due("end lacks", Check.tell(x, "c12"), -1003);
    check.due("p too long", Check.tell(x, "p0000000;"), -1007);
    check.due("p too short", Check.tell(x, "p00000;"), -1006);
    check.due("t too short", Check.tell(x, "t0;"), -1002);
    check.due("h too short", Check.tell(x, "h00;"), -1003);
    check.due("l too short", Check.tell(x, "l01;"), -1003);
    check.due("l too long", Check.tell(x, "l0123;"), -1004);
    check.due("second statement", Check.tell(x, "c12;x"), -1004);
    check.due("second lacks", Check.tell(x, "c12;p0"), -1006);
    check.due("form goes before sense", Check.tell(x, "t00;c"), -1005);
    check.due("two semicolons", Check.tell(x, "c12;;"), -1004);
    check.due("end at 100", Check.tell(x, "c01;".repeat(24) + "h000"), -1100);
    Check.row(x, 7, 0, 'c', -208, '1', ';');
    check.due("a byte keeps its lowest bits", x.fete(7), 1);
    Check.row(x, 7, 0, 'c', 128 + '0', '1', ';');
    check.due("a byte below 0", x.fete(7), -1001);
  }

  private static void faultsOfSense() {
    CakesToTheWatched x = Check.of("p003030;p003030;p403030;c03;");
    check.due("kind 8", Check.tell(x, "p800000;"), -2000);
    check.due("kind 9", Check.tell(x, "c03;p900000;"), -2004);
    check.due("hunger 31", Check.tell(x, "p003100;"), -2000);
    check.due("wish 31", Check.tell(x, "p000031;"), -2000);
    check.due("eater lacks", Check.tell(x, "t30;"), -2000);
    check.due("looker lacks", Check.tell(x, "t03;"), -2000);
    check.due("one twice", Check.tell(x, "t11;"), -2000);
    check.due("blind looks", Check.tell(x, "t02;"), -2000);
    check.due("no slices", Check.tell(x, "c00;t01;"), -2004);
    check.due("no hunger", Check.tell(x, "h000;t01;"), -2005);
    check.due("who ate looks", Check.tell(x, "t01;t10;"), -2004);
    check.due("slices end", Check.tell(x, "t01;t01;t01;t01;"), -2012);
    check.due("h of nobody", Check.tell(x, "h300;"), -2000);
    check.due("h 31", Check.tell(x, "h031;"), -2000);
    check.due("l of nobody", Check.tell(x, "l900;"), -2000);
    check.due("l 31", Check.tell(x, "l131;"), -2000);
    check.due("the first is told", Check.tell(x, "c05;h031;l031;"), -2004);
    check.due("one who comes just now", Check.tell(x, "p000000;h330;l330;t31;"), 4);
    check.due("no room", Check.tell(x, "p000000;".repeat(5)), -2032);
    check.due("room for four", Check.tell(x, "p000000;".repeat(4)), 4);
  }

  private static void withAFaultNothingComes() {
    CakesToTheWatched x = Check.of("p001010;p001010;c07;t01;");
    String before = Check.told(x);
    check.due("sense", Check.tell(x, "p000000;c99;h001;l101;t01;t10;"), -2026);
    check.holds("nothing of sense", before.equals(Check.told(x)));
    check.due("form", Check.tell(x, "p000000;c99;h001;l101;t01;x"), -1026);
    check.holds("nothing of form", before.equals(Check.told(x)));
  }

  private static void refusalsOfFete() {
    CakesToTheWatched x = new CakesToTheWatched();
    check.due("shelf -1", x.fete(-1), -1);
    check.due("shelf 8", x.fete(8), -1);
    check.due("nothing", x.fete(0), -11);
    x.keep(0, 1, 0, 0);
    check.due("a kind", x.fete(0), -12);
    x.row(0, 1, 4);
    check.due("shorts", x.fete(0), -12);
    x.row(0, 2, 4);
    check.due("ints", x.fete(0), -12);
    x.row(0, 0, 4);
    check.due("bytes of 0", x.fete(0), -1000);
  }

  private static void numbersOfOne() {
    CakesToTheWatched x = Check.of("p290807;p001009;c09;t01;t01;");
    int[] first = {2, 9, 0, 7, 2, 0, 7, 4, 1};
    int[] second = {0, 0, 10, 5, 0, 2, 3, 2, 0};
    for (int what = 0; what <= 8; what++) {
      check.due("person 0 " + what, x.person(0, what), first[what]);
      check.due("person 1 " + what, x.person(1, what), second[what]);
    }
    check.due("no such one", x.person(2, 0), -1);
    check.due("one below", x.person(-1, 0), -1);
    check.due("what 9", x.person(0, 9), -1);
    check.due("what -1", x.person(0, -1), -1);
  }

  private static void numbersOfKinds() {
    int[][] ofFigure0 = {{3, 5, 3, 1, 3, 2, 2, 9}, {2, 1, 4, 2, 0, 4, 1, 0}, {0, 1, 1, 0, 0, 0, 2, 0}};
    int[][] ofFigure5 = {{3, 5, 5, 1, 3, 2, 2, 9}, {2, 1, 4, 3, 0, 6, 1, 0}, {0, 1, 1, 0, 0, 0, 2, 0}};
    int[][] ofFigure8 = {{3, 5, 7, 1, 3, 2, 2, 9}, {2, 1, 4, 4, 0, 8, 1, 0}, {0, 1, 1, 0, 0, 0, 2, 0}};
    int[][] ofFigure9 = {{3, 5, 7, 1, 3, 2, 2, 9}, {2, 1, 4, 5, 0, 10, 1, 0}, {0, 1, 1, 0, 0, 0, 2, 0}};
    numbersOfKindsWith(0, ofFigure0);
    numbersOfKindsWith(5, ofFigure5);
    numbersOfKindsWith(8, ofFigure8);
    numbersOfKindsWith(9, ofFigure9);
  }

  private static void numbersOfKindsWith(int figure, int[][] due) {
    CakesToTheWatched x = new CakesToTheWatched();
    for (int k = 0; k < 8; k++) {
      x.keep(0, 1, k, figure);
      x.comes(0, 0, 0);
      check.due("kind " + k, x.person(k, 0), k);
      for (int what = 6; what <= 8; what++) {
        check.due("kind " + k + " figure " + figure + " what " + what, x.person(k, what), due[what - 6][k]);
      }
    }
  }

  private static void onesCome() {
    CakesToTheWatched x = new CakesToTheWatched();
    check.due("nothing", x.comes(1, 0, 0), -11);
    check.due("hunger first", x.comes(1, -1, 0), -1);
    check.due("no shelf", x.comes(8, 0, 0), -1);
    check.due("no shelf below", x.comes(-1, 0, 0), -1);
    x.row(1, 0, 1);
    check.due("a row", x.comes(1, 0, 0), -12);
    check.due("wish first", x.comes(1, 0, 31), -1);
    x.keep(1, 1, 5, 7);
    check.due("hunger 31", x.comes(1, 31, 0), -1);
    check.due("wish -1", x.comes(1, 0, -1), -1);
    check.due("nobody came", x.count(0), 0);
    for (int p = 0; p < 8; p++) {
      check.due("comes " + p, x.comes(1, 30 - p, p), p);
    }
    check.due("no room", x.comes(1, 0, 0), -2);
    check.due("range before room", x.comes(1, 31, 0), -1);
    check.due("nothing before room", x.comes(2, 0, 0), -11);
    check.due("eight", x.count(0), 8);
    int[] due = {5, 7, 27, 3, 0, 0};
    for (int what = 0; what < due.length; what++) {
      check.due("who came " + what, x.person(3, what), due[what]);
    }
    check.due("the shelf keeps", x.cost(1), 17);
  }

  private static void onesFeel() {
    CakesToTheWatched x = Check.of("p001203;p001203;");
    check.due("hunger", x.feels(1, 0, 30), 12);
    check.due("wish", x.feels(1, 1, 0), 3);
    check.due("hunger again", x.feels(1, 0, 0), 30);
    check.due("wish again", x.feels(1, 1, 30), 0);
    check.due("hunger is", x.person(1, 2), 0);
    check.due("wish is", x.person(1, 3), 30);
    check.due("other hunger", x.person(0, 2), 12);
    check.due("other wish", x.person(0, 3), 3);
    int[][] wrong = {{2, 0, 0}, {-1, 0, 0}, {0, 2, 0}, {0, -1, 0}, {0, 0, 31}, {0, 0, -1}, {0, 1, 31}, {0, 1, -1}};
    for (int[] w : wrong) {
      check.due("feels " + w[0] + " " + w[1] + " " + w[2], x.feels(w[0], w[1], w[2]), -1);
    }
    check.due("hunger stays", x.person(0, 2), 12);
  }

  private static void slicesBecome() {
    CakesToTheWatched x = new CakesToTheWatched();
    check.due("99", x.slices(99), 0);
    check.due("100", x.slices(100), -1);
    check.due("-1", x.slices(-1), -1);
    check.due("0", x.slices(0), 99);
    check.due("7", x.slices(7), 0);
    check.due("count", x.count(1), 7);
  }

  private static void turnsAreMade() {
    CakesToTheWatched x = Check.of("p000706;p200705;c09;");
    check.due("first", x.eats(0, 1), 7);
    check.due("second", x.eats(0, 1), 4);
    check.due("third", x.eats(0, 1), 1);
    check.due("no hunger", x.eats(0, 1), -3);
    int[] eater = {0, 0, 0, 6, 3, 0};
    int[] looker = {2, 0, 7, 0, 0, 3};
    for (int what = 0; what < 6; what++) {
      check.due("eater " + what, x.person(0, what), eater[what]);
      check.due("looker " + what, x.person(1, what), looker[what]);
    }
    check.due("slices", x.count(1), 6);
    check.due("step", x.count(2), 3);
  }

  private static void turnsAreRefused() {
    CakesToTheWatched x = Check.of("p000909;p000909;p400909;c02;");
    String before = Check.told(x);
    check.due("one twice", x.eats(0, 0), -1);
    check.due("no eater", x.eats(3, 0), -1);
    check.due("no looker", x.eats(0, 3), -1);
    check.due("below", x.eats(-1, 0), -1);
    check.due("looker below", x.eats(0, -1), -1);
    check.due("blind looks", x.eats(0, 2), -3);
    check.holds("nothing changes", before.equals(Check.told(x)));
    check.due("blind eats", x.eats(2, 0), 5);
    check.due("last", x.eats(0, 1), 5);
    check.due("no slices", x.eats(0, 1), -3);
    x.slices(9);
    check.due("who ate looks", x.eats(1, 0), -3);
    check.due("who ate eats again", x.eats(0, 1), 5);
    check.due("a cow looks", Check.of("p000909;p700909;c02;").eats(0, 1), 3);
  }

  private static void timesStayAt99() {
    CakesToTheWatched x = Check.of("p703030;p003030;c99;");
    for (int i = 0; i < 102; i++) {
      x.feels(0, 0, 9);
      x.slices(50);
      check.due("turn " + i, x.eats(0, 1), i < 15 ? 11 : 9);
    }
    check.due("eaten", x.person(0, 4), 99);
    check.due("watched", x.person(1, 5), 99);
    check.due("step", x.count(2), 102);
    check.due("slices", x.count(1), 49);
  }

  private static void joysOfTurns() {
    CakesToTheWatched x = Check.of("p103030;p000005;p603030;p203030;p003030;c99;t41;t41;");
    check.due("child", x.joys(0, 1, 0), 4);
    check.due("child eats", x.joys(0, 1, 1), 3);
    check.due("looks", x.joys(0, 1, 2), 1);
    check.due("twin is shy", x.joys(2, 1, 1), 0);
    check.due("twin's joys", x.joys(2, 1, 0), 1);
    check.due("deacon", x.joys(3, 1, 1), 1);
    check.due("guest", x.joys(4, 1, 1), 3);
    check.due("not shy of another", x.joys(0, 2, 1), 5);
    check.due("hunger is stilled all the same", x.eats(2, 1), 1);
    check.due("twin's hunger", x.person(2, 2), 28);
    check.due("joy not below 0", x.joys(2, 1, 0), 0);
    check.due("no wish left", x.joys(0, 1, 2), 0);
    check.due("one twice", x.joys(0, 0, 0), -1);
    check.due("no such one", x.joys(0, 5, 0), -1);
    check.due("no such eater", x.joys(-1, 0, 0), -1);
    check.due("what 3", x.joys(0, 1, 3), -1);
    check.due("what -1", x.joys(0, 1, -1), -1);
    check.due("what goes first", x.joys(0, 2, 3), -1);
    check.due("who ate looks", x.joys(0, 2, 0), -3);
    check.due("no hunger", x.joys(1, 0, 1), -3);
    x.slices(0);
    check.due("no slices", x.joys(0, 1, 0), -3);
    check.due("step stays", x.count(2), 3);
    check.due("slices stay", x.count(1), 0);
    CakesToTheWatched y = Check.of("p000201;p000001;c01;");
    check.due("no more than hunger", y.joys(0, 1, 1), 2);
    check.due("no more than wish", y.joys(0, 1, 2), 1);
  }

  private static void theStepEndsAt999() {
    CakesToTheWatched x = Check.of("p303030;p003030;");
    String text = "c99;h030;" + "t01;".repeat(22);
    for (int i = 0; i < 45; i++) {
      int answer = i == 0 ? Check.tell(x, text) : x.fete(7);
      check.due("fete " + i, answer, 24 );
    }
    check.due("step", x.count(2), 990);
    check.due("too many", x.fete(7), -2000 - 9 - 36);
    for (int i = 0; i < 9; i++) {
      check.holds("turn " + i, x.feels(0, 0, 30) >= 0 && x.eats(0, 1) >= 0);
    }
    check.due("step", x.count(2), 999);
    check.due("eats", x.eats(0, 1), -3);
    check.due("step stays", x.image(), 999);
  }
}
