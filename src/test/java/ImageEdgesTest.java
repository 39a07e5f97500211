/** Promises 32 to 34 and what terms III say of them, sentence by sentence. */
public final class ImageEdgesTest {
  private static final Sentences doc = new Sentences();

  public static void main(String[] args) {
    image();
    restore();
    allThereIs();
    count();
    doc.end();
  }

  private static void image() {
    doc.holds("Promise 32: STEP", "image() = 0 | tell(p000909;p000909;c09;t01;) | image() = 1 | eats(0, 1) = 5 | image() = 2 | image() = 2");
    doc.holds("Promise 32: taken again, it is another", "slices(5) = 0 | image() = 0 | slices(6) = 5 | image() = 0 | slices(7) = 6 | restore() = 0 | count(1) = 6");
  }

  private static void restore() {
    doc.holds("Promise 33: -3 there is none", "restore() = -3 | tell(p000909;p000909;c09;t01;) | restore() = -3 | count(0) = 2 | image() = 1 | restore() = 1");
    doc.holds("Promise 33: STEP", "tell(p000909;p000909;c09;t01;) | image() = 1 | eats(0, 1) = 5 | count(2) = 2 | restore() = 1 | count(2) = 1");
    doc.holds("THE IMAGE stays, RESTORED again and again", "slices(5) = 0 | image() = 0 | slices(6) = 5 | restore() = 0 | count(1) = 5 | slices(7) = 5 | restore() = 0 | count(1) = 5");
    doc.holds("THE IMAGE of nobody", """
        image() = 0
        tell(p290909;p000909;c09;t01;) | restore() = 0
        count(0) = 0 | count(1) = 0 | count(2) = 0 | count(3) = 0 | count(4) = 0 | count(5) = 0 | count(6) = 0
        person(0, 0) = -1 | fetes(1, 1, 1) = -3
        keep(0, 1, 3, 3) | comes(0, 5, 6) = 0 | person(0, 0) = 3 | person(0, 1) = 3 | person(0, 4) = 0 | person(0, 5) = 0
        person(0, 6) = 1 | person(0, 7) = 3 | person(0, 8) = 0
        """);
    doc.holds("THE IMAGE of eight", "tell(" + "p000909;".repeat(8) + "c09;) | image() = 0 | eats(7, 6) = 5 | restore() = 0 | count(0) = 8 | person(7, 2) = 9 | person(7, 4) = 0 | person(6, 3) = 9 | person(6, 5) = 0 | count(1) = 9 | eats(7, 6) = 5");
    doc.holds("RESTORED when there is more and when there is less", """
        tell(p000909;) | image() = 0 | tell(p100808;) | restore() = 0 | count(0) = 1 | person(1, 0) = -1
        tell(p200707;) | image() = 0 | person(1, 0) = 2
        keep(0, 1, 7, 0) | comes(0, 1, 1) = 2 | restore() = 0 | count(0) = 2 | person(1, 0) = 2 | person(1, 2) = 7
        """);
  }

  private static void allThereIs() {
    doc.holds("RESTORED all is as it was then: HUNGER and WISH", "tell(p000912;) | image() | feels(0, 0, 1) = 9 | feels(0, 1, 2) = 12 | restore() = 0 | person(0, 2) = 9 | person(0, 3) = 12");
    doc.holds("RESTORED all is as it was then: EATEN, WATCHED, SLICES, STEP", """
        tell(p000909;p000909;c09;t01;) | image() = 1
        eats(0, 1) = 5 | eats(0, 1) = 5 | count(1) = 6 | count(2) = 3
        restore() = 1 | person(0, 4) = 1 | person(1, 5) = 1 | person(0, 5) = 0 | person(1, 4) = 0 | count(1) = 8 | count(2) = 1
        person(0, 2) = 6 | person(1, 3) = 7
        """);
    doc.holds("RESTORED all is as it was then: KIND and FIGURE", """
        tell(p290909;) | image() = 0
        person(0, 0) = 2 | restore() = 0 | person(0, 0) = 2 | person(0, 1) = 9 | person(0, 6) = 7 | person(0, 7) = 4 | person(0, 8) = 1
        """);
    doc.holds("but SHELVES: they stay as they are", """
        keep(0, 1, 5, 7) | hold(1, 1, 5, 6) | row(2, 0, 1) | image() = 0
        keep(0, 1, 2, 1) | hold(1, 2, 7, 8, 9) | keep(2, 0, 0, 0) | keep(3, 1, 0, 0)
        restore() = 0 | cost(0) = 5 | element(1, 2) = 9 | cost(2) = -11 | cost(3) = 4
        """);
    doc.holds("what THE IMAGE holds is no matter until it is RESTORED", """
        tell(p000909;p000909;c09;) | image() = 0 | eats(0, 1) = 5 | feels(1, 0, 1) = 9 | slices(3) = 8
        greedily(30, 0) = 10 | greedily(30, 1) = 2 | forged(0) = -11 | fetes(20, 1, 1) | count(1) = 3 | person(1, 2) = 1
        restore() = 0 | count(1) = 9 | person(1, 2) = 9 | person(0, 2) = 9
        """);
  }

  private static void count() {
    doc.holds("Promise 34: -1 for others", "count(-1) = -1 | count(7) = -1 | count(2147483647) = -1 | count(-2147483648) = -1 | count(0) = 0 | count(6) = 0");
    doc.holds("Promise 34: 0 PEOPLE", "count(0) = 0 | tell(" + "p000000;".repeat(8) + ") | count(0) = 8");
    doc.holds("Promise 34: 1 SLICES, 2 STEP", "tell(p000909;p000909;c99;) | count(1) = 99 | count(2) = 0 | eats(0, 1) = 5 | count(1) = 98 | count(2) = 1");
    doc.holds("Promise 34: 3 all HUNGER, 4 all WISH", "tell(" + "p003029;".repeat(8) + ") | count(3) = 240 | count(4) = 232 | feels(7, 0, 0) | count(3) = 210 | feels(0, 1, 0) | count(4) = 203");
    doc.holds("Promise 34: 5 all EATEN", "tell(p000909;p400909;p000909;c09;t02;t02;t12;) | count(5) = 3 | count(2) = 3");
    doc.holds("Promise 34: 6 who has had none (bits)", "tell(" + "p000909;".repeat(8) + "c09;) | count(6) = 255 | eats(7, 0) = 5 | count(6) = 127 | eats(1, 0) = 5 | count(6) = 125 | eats(0, 2) = 5 | count(6) = 124");
    doc.holds("Promise 34: 6 who has had none, BLIND or without HUNGER, too", "tell(p400000;p000000;) | count(6) = 3");
  }
}
