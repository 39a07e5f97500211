/** Promises 32 to 34: the image, what is told. */
public final class ImageTest {
  private static final Check check = new Check();

  public static void main(String[] args) {
    theImage();
    theImageOfNobody();
    objectsAreApart();
    counts();
    check.end();
  }

  private static void theImage() {
    CakesToTheWatched x = Check.of("p000909;p250909;c07;t01;");
    check.due("none", x.restore(), -3);
    String then = Check.told(x);
    check.due("taken", x.image(), 1);
    x.keep(0, 1, 7, 3);
    Check.row(x, 1, Check.SHORTS, 5, 6);
    x.eats(0, 1);
    x.comes(0, 7, 7);
    x.feels(1, 0, 30);
    x.feels(1, 1, 30);
    x.slices(50);
    String later = Check.told(x);
    check.due("restored", x.restore(), 1);
    check.holds("as it was", then.equals(Check.told(x)));
    check.due("shelves stay", x.cost(0), 1);
    check.due("rows stay", x.element(1, 1), 6);
    x.eats(0, 1);
    x.eats(0, 1);
    check.due("restored again", x.restore(), 1);
    check.holds("as it was again", then.equals(Check.told(x)));
    x.eats(0, 1);
    check.due("taken again", x.image(), 2);
    x.slices(0);
    check.due("restored to the later", x.restore(), 2);
    check.due("later slices", x.count(1), 5);
    check.holds("another", !later.equals(Check.told(x)));
    check.due("forgotten who came", x.person(2, 0), -1);
  }

  private static void theImageOfNobody() {
    CakesToTheWatched x = new CakesToTheWatched();
    check.due("taken", x.image(), 0);
    Check.tell(x, "p000909;p250909;c07;t01;");
    check.due("restored", x.restore(), 0);
    for (int what = 0; what <= 6; what++) {
      check.due("count " + what, x.count(what), 0);
    }
    x.keep(0, 1, 3, 3);
    check.due("comes anew", x.comes(0, 5, 5), 0);
    check.due("has had none", x.person(0, 4), 0);
    check.due("has watched none", x.person(0, 5), 0);
  }

  private static void objectsAreApart() {
    CakesToTheWatched x = Check.of("p000909;p250909;c07;t01;");
    x.keep(0, 1, 3, 3);
    x.image();
    CakesToTheWatched y = new CakesToTheWatched();
    check.due("another's people", y.count(0), 0);
    check.due("another's slices", y.count(1), 0);
    check.due("another's shelf", y.cost(0), -11);
    check.due("another's row", y.fete(7), -11);
    check.due("another's image", y.restore(), -3);
    String before = Check.told(x);
    Check.tell(y, "p700101;p700101;p700101;c03;t01;");
    y.image();
    y.keep(0, 0, 0, 0);
    y.pairs(0);
    check.holds("the first stays", before.equals(Check.told(x)));
    check.due("the first's shelf", x.cost(0), 10);
    check.due("the first's row", x.element(7, 0), 'p');
    check.due("the first's row's length", x.copy(7, 24, 7, 0, 0), 0);
    check.due("the first's image", x.restore(), 1);
    check.holds("the first restored", before.equals(Check.told(x)));
  }

  private static void counts() {
    CakesToTheWatched x = Check.of("p000907;p250908;p400105;c07;t01;t01;t21;");
    int[] due = {3, 4, 3, 12, 12, 3, 0b010};
    for (int what = 0; what <= 6; what++) {
      check.due("count " + what, x.count(what), due[what]);
    }
    check.due("count 7", x.count(7), -1);
    check.due("count -1", x.count(-1), -1);
    check.due("none ate", Check.of("p400907;p000000;").count(6), 0b11);
  }
}
