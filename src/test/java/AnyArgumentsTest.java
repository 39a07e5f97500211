import java.lang.reflect.Field;
import java.lang.reflect.InvocationTargetException;
import java.lang.reflect.Method;
import java.lang.reflect.Modifier;
import java.util.Arrays;
import java.util.Random;
import java.util.TreeSet;

/** The face is the document's, and any arguments in any state are answered; only element throws. */
public final class AnyArgumentsTest {
  private static final Check check = new Check();
  private static final int[] EDGES = {Integer.MIN_VALUE, Integer.MIN_VALUE + 1, -1000, -129, -128, -2, -1, 0, 1, 2, 7,
      8, 9, 30, 31, 99, 100, 101, 127, 128, 255, 256, 999, 65536, Integer.MAX_VALUE - 1, Integer.MAX_VALUE};
  private static final String FACE = "long crowd(int, int, int, int) | long element(int, int) | long mean(int) | "
      + "int fete(int) | int person(int, int) | int comes(int, int, int) | int feels(int, int, int) | int slices(int) | "
      + "int eats(int, int) | int joys(int, int, int) | int who(int) | int bestPair(int) | int bestLooker(int) | "
      + "int twoTurns(int) | int pairs(int) | int greedily(int, int) | int atAll(int) | int stuck() | int bring(int) | "
      + "int feeds(int) | int prices(int, int) | int clears(int) | int swap(int) | int throat(int, int, int, int) | "
      + "int lastOnes(int, int, int) | int shares(int) | int joyless() | int seen(int) | int forged(int) | "
      + "int judge(int) | int fetes(int, int, int) | int image() | int restore() | int count(int) | "
      + "int keep(int, int, int, int) | int row(int, int, int) | int put(int, int, int) | "
      + "int copy(int, int, int, int, int) | int cost(int) | int toss(int)";

  public static void main(String[] args) {
    theFace();
    Random random = new Random(7);
    Method[] calls = CakesToTheWatched.class.getDeclaredMethods();
    Arrays.sort(calls, (a, b) -> a.getName().compareTo(b.getName()));
    for (int run = 0; run < 400; run++) {
      oneRun(random, calls);
    }
    check.end();
  }

  private static void theFace() {
    TreeSet<String> found = new TreeSet<>();
    for (Method m : CakesToTheWatched.class.getDeclaredMethods()) {
      check.holds(m.getName() + " is public or private", Modifier.isPublic(m.getModifiers())
          || Modifier.isPrivate(m.getModifiers()) || m.isSynthetic());
      if (Modifier.isPublic(m.getModifiers())) {
        String arguments = Arrays.toString(m.getParameterTypes()).replace("[", "(").replace("]", ")");
        found.add(m.getReturnType() + " " + m.getName() + arguments);
      }
    }
    TreeSet<String> wanted = new TreeSet<>(Arrays.asList(FACE.split(" \\| ")));
    if (!found.equals(wanted)) {
      System.out.println("found " + found + "\nwanted " + wanted);
    }
    check.holds("the face", found.equals(wanted));
    check.holds("final", Modifier.isFinal(CakesToTheWatched.class.getModifiers()));
    check.due("constructors", CakesToTheWatched.class.getConstructors().length, 1);
    check.due("constructors, private ones too", CakesToTheWatched.class.getDeclaredConstructors().length, 1);
    nothingElseIsSeen();
  }

  private static void nothingElseIsSeen() {
    for (Field f : CakesToTheWatched.class.getDeclaredFields()) {
      check.holds(f.getName() + " is private", Modifier.isPrivate(f.getModifiers()));
    }
    for (Class<?> inside : CakesToTheWatched.class.getDeclaredClasses()) {
      boolean seen = Modifier.isPublic(inside.getModifiers()) || Modifier.isProtected(inside.getModifiers());
      check.holds(inside.getName() + " is not seen from outside, and static",
          !seen && Modifier.isStatic(inside.getModifiers()));
    }
    for (Method m : CakesToTheWatched.class.getDeclaredMethods()) {
      String declared = Arrays.toString(m.getExceptionTypes());
      String wanted = m.getName().equals("element")
          ? "[class java.lang.IllegalArgumentException, class java.lang.IllegalStateException]" : "[]";
      check.holds(m.getName() + " declares " + declared + ", due is " + wanted + "; that", declared.equals(wanted));
    }
  }

  /** No more than 512 calls, so that the last answers are promised, too. */
  private static void oneRun(Random random, Method[] calls) {
    CakesToTheWatched x = new CakesToTheWatched();
    int ofSense = random.nextInt(10);
    for (int i = 0; i < 350; i++) {
      Method m = calls[random.nextInt(calls.length)];
      if (!Modifier.isPublic(m.getModifiers())) {
        continue;
      }
      if (i % 8 == 0) {
        x.keep(random.nextInt(8), 1, random.nextInt(8), random.nextInt(10));
        x.slices(random.nextInt(100));
      }
      Object[] arguments = new Object[m.getParameterCount()];
      for (int k = 0; k < arguments.length; k++) {
        arguments[k] = random.nextInt(10) < ofSense ? random.nextInt(8) : EDGES[random.nextInt(EDGES.length)];
      }
      call(x, m, arguments);
    }
    inRange(x);
  }

  private static void call(CakesToTheWatched x, Method m, Object[] arguments) {
    try {
      m.invoke(x, arguments);
    } catch (IllegalAccessException e) {
      throw new IllegalStateException(e);
    } catch (InvocationTargetException e) {
      Class<?> thrown = e.getCause().getClass();
      boolean due = m.getName().equals("element")
          && (thrown == IllegalArgumentException.class || thrown == IllegalStateException.class);
      check.holds(m.getName() + Arrays.toString(arguments) + " throws " + e.getCause(), due);
    }
  }

  private static void inRange(CakesToTheWatched x) {
    int[] most = {8, 99, 999, 240, 240, 792, 255};
    for (int what = 0; what <= 6; what++) {
      check.holds("count " + what + " in range", x.count(what) >= 0 && x.count(what) <= most[what]);
    }
    int[] mostOfOne = {7, 9, 30, 30, 99, 99};
    for (int p = 0; p < x.count(0); p++) {
      for (int what = 0; what < 6; what++) {
        check.holds("person " + what + " in range", x.person(p, what) >= 0 && x.person(p, what) <= mostOfOne[what]);
      }
    }
  }
}
