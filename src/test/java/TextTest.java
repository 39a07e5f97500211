import java.util.Random;
import java.util.regex.Matcher;
import java.util.regex.Pattern;

/**
 * Promise 2 with any texts: the form of a text against a pattern of the Java library, and what its statements do
 * against the calls that do the same one by one.
 */
public final class TextTest {
  private static final Check check = new Check();
  private static final Pattern WHOLE =
      Pattern.compile("(p[0-9]{6};|c[0-9]{2};|t[0-9]{2};|h[0-9]{3};|l[0-9]{3};)+");

  public static void main(String[] args) {
    String[] texts = {"p001203;", "c05;", "t01;", "h030;", "l101;", "p261203;c05;", "c05;t01;", "t01;h030;", "h030;l101;",
        "l101;p001203;"};
    for (String text : texts) {
      everyByteAtEveryPlace(text);
      everyLength(text);
    }
    anyStatements();
    check.end();
  }

  /** Two guests with hunger, a third one without, and slices. */
  private static CakesToTheWatched some() {
    CakesToTheWatched x = new CakesToTheWatched();
    x.keep(0, 1, 0, 0);
    x.comes(0, 20, 20);
    x.comes(0, 9, 9);
    x.comes(0, 0, 9);
    x.slices(7);
    return x;
  }

  private static void everyByteAtEveryPlace(String text) {
    for (int place = 0; place < text.length(); place++) {
      for (int b = 0; b < 256; b++) {
        String changed = text.substring(0, place) + (char) b + text.substring(place + 1);
        compare(changed);
      }
    }
  }

  private static void everyLength(String text) {
    for (int length = 0; length <= text.length(); length++) {
      compare(text.substring(0, length));
      compare(text.substring(0, length) + text);
      compare("c09;".repeat(15) + text.substring(0, length));
    }
  }

  private static void anyStatements() {
    Random random = new Random(11);
    for (int i = 0; i < 4000; i++) {
      StringBuilder text = new StringBuilder();
      int statements = 1 + random.nextInt(12);
      for (int k = 0; k < statements; k++) {
        String next = anyStatement(random);
        if (text.length() + next.length() <= 100) {
          text.append(next);
        }
      }
      compare(text.toString());
    }
  }

  /** Mostly one that can be. */
  private static String anyStatement(Random random) {
    int far = random.nextInt(12) == 0 ? 9 : 2;
    int tens = random.nextInt(12) == 0 ? 9 : 2;
    switch (random.nextInt(9)) {
      case 0: return "p" + random.nextInt(far == 9 ? 10 : 8) + random.nextInt(10) + two(random, tens) + two(random, tens) + ";";
      case 1: return "c" + two(random, 9) + ";";
      case 2: return "h" + random.nextInt(far + 1) + two(random, tens) + ";";
      case 3: return "l" + random.nextInt(far + 1) + two(random, tens) + ";";
      case 4: return "t" + random.nextInt(far + 1) + random.nextInt(far + 1) + ";";
      default: return random.nextBoolean() ? "t01;" : "t02;";
    }
  }

  private static String two(Random random, int tens) {
    return "" + random.nextInt(tens + 1) + random.nextInt(10);
  }

  private static void compare(String text) {
    CakesToTheWatched x = some();
    CakesToTheWatched y = some();
    int due = brokenForm(text);
    String told = "text " + text;
    if (due == 0) {
      due = tellOneByOne(y, text);
      y = due < 0 ? some() : y;
    }
    check.due(told, Check.tell(x, text), due);
    check.holds(told + ": what is there then", Check.told(x).equals(Check.told(y)));
  }

  /** 0 if the form is whole. */
  private static int brokenForm(String text) {
    if (WHOLE.matcher(text).matches()) {
      return 0;
    }
    for (int end = 1; end <= text.length(); end++) {
      Matcher start = WHOLE.matcher(text.substring(0, end));
      // A text that ends too early might still become whole.
      if (!start.matches() && !start.hitEnd()) {
        return -1000 - (end - 1);
      }
    }
    return -1000 - text.length();
  }

  private static int tellOneByOne(CakesToTheWatched y, String text) {
    int statements = 0;
    int place = 0;
    for (String statement : text.split(";")) {
      if (tellOne(y, statement) < 0) {
        return -2000 - place;
      }
      statements++;
      place += statement.length() + 1;
    }
    return statements;
  }

  private static int tellOne(CakesToTheWatched y, String s) {
    if (s.charAt(0) == 'p') {
      int kept = y.keep(0, 1, number(s, 1, 2), number(s, 2, 3));
      return kept < 0 ? kept : y.comes(0, number(s, 3, 5), number(s, 5, 7));
    }
    if (s.charAt(0) == 'c') {
      return y.slices(number(s, 1, 3));
    }
    if (s.charAt(0) == 't') {
      return y.eats(number(s, 1, 2), number(s, 2, 3));
    }
    return y.feels(number(s, 1, 2), s.charAt(0) == 'h' ? 0 : 1, number(s, 2, 4));
  }

  private static int number(String s, int from, int to) {
    return Integer.parseInt(s.substring(from, to));
  }
}
