import java.lang.reflect.InvocationTargetException;
import java.lang.reflect.Method;

/**
 * Sentences of the document, each tried by a run of calls on a new object. A run is written a call a line, or
 * several with " | " between, with the answer that is due behind " = " ("throws.IllegalStateException" and the like
 * too); a call without one must not be refused. Besides the calls of the face there are "tell(p000909;c05;)", which
 * puts a text on shelf 7 and has it told, and "hold(0, 1, 5, 6)": shelf 0 gets a row of shorts with 5 and 6.
 */
final class Sentences {
  private static final int MOST_CALLS = 512;
  private static final String CHANGING = " fete comes feels slices eats image restore keep row put copy ";

  private final Check check = new Check();

  /** Also that no call of the run that asks or is refused changes anything. */
  void holds(String sentence, String calls) {
    Run whole = new Run();
    Run changesAlone = new Run();
    for (String line : calls.split("\n| \\| ")) {
      if (line.isBlank()) {
        continue;
      }
      String[] sides = line.trim().split(" = ");
      String answer = whole.answer(sides[0]);
      if (sides.length == 1) {
        check.holds(sentence + ": " + sides[0] + " answered " + answer + ", which is", !isRefusal(answer));
      } else if (!answer.equals(sides[1])) {
        check.holds(sentence + ": " + line.trim() + " is due, answered was " + answer + "; that", false);
      }
      if (sides[0].startsWith("tell(") && isRefusal(answer)) {
        changesAlone.putText(inside(sides[0]));
      } else if (!isRefusal(answer) && mayChange(sides[0])) {
        changesAlone.answer(sides[0]);
      }
    }
    int room = MOST_CALLS - whole.calls;
    check.holds(sentence + ": no more than 512 calls", room >= 0);
    check.holds(sentence + ": as it is without what only asks or is refused",
        whole.everything(room).equals(changesAlone.everything(room)));
  }

  void end() {
    check.end();
  }

  private static boolean isRefusal(String answer) {
    return answer.startsWith("throws.") || answer.startsWith("-");
  }

  private static String inside(String call) {
    return call.substring(call.indexOf('(') + 1, call.lastIndexOf(')'));
  }

  private static boolean mayChange(String call) {
    String name = call.substring(0, call.indexOf('('));
    return name.equals("tell") || name.equals("hold") || CHANGING.contains(" " + name + " ");
  }

  /** One object and how often it was called. */
  private static final class Run {
    private final CakesToTheWatched x = new CakesToTheWatched();
    private int calls;
    private int callsToShow;

    String answer(String call) {
      String name = call.substring(0, call.indexOf('('));
      String inside = inside(call);
      if (name.equals("tell")) {
        putText(inside);
        return answer("fete", 7);
      }
      String[] parts = inside.isEmpty() ? new String[0] : inside.split(", *");
      Object[] arguments = new Object[parts.length];
      for (int i = 0; i < parts.length; i++) {
        arguments[i] = Integer.parseInt(parts[i]);
      }
      return name.equals("hold") ? hold(arguments) : answer(name, arguments);
    }

    void putText(String text) {
      answer("row", 7, Check.BYTES, text.length());
      for (int i = 0; i < text.length(); i++) {
        answer("put", 7, i, (int) text.charAt(i));
      }
    }

    private String hold(Object[] arguments) {
      String answer = answer("row", arguments[0], arguments[1], arguments.length - 2);
      for (int i = 2; i < arguments.length; i++) {
        answer("put", arguments[0], i - 2, arguments[i]);
      }
      return answer;
    }

    private String answer(String name, Object... arguments) {
      calls++;
      try {
        return String.valueOf(methodOf(name).invoke(x, arguments));
      } catch (IllegalAccessException e) {
        throw new IllegalStateException(e);
      } catch (InvocationTargetException e) {
        return "throws." + e.getCause().getClass().getSimpleName();
      }
    }

    private static Method methodOf(String name) {
      for (Method m : CakesToTheWatched.class.getMethods()) {
        if (m.getName().equals(name)) {
          return m;
        }
      }
      throw new IllegalArgumentException("no such call: " + name);
    }

    /** All that so many calls at most show; the object is of no use then. */
    String everything(int most) {
      callsToShow = most;
      StringBuilder all = new StringBuilder();
      showFete(all);
      for (int d = 0; d < 8; d++) {
        show(all, "cost", d);
        show(all, "toss", d);
        showRow(all, d);
      }
      show(all, "restore");
      showFete(all);
      for (int d = 0; d < 8; d++) {
        show(all, "comes", d, 3, 4);
      }
      showFete(all);
      return all.toString();
    }

    private void showFete(StringBuilder all) {
      int size = 8;
      for (int what = 0; what <= 6; what++) {
        String answer = show(all, "count", what);
        size = what == 0 && !answer.isEmpty() ? Integer.parseInt(answer) : size;
      }
      for (int p = 0; p < size; p++) {
        for (int what = 0; what <= 8; what++) {
          show(all, "person", p, what);
        }
      }
    }

    private void showRow(StringBuilder all, int d) {
      boolean there = true;
      for (int i = 0; i <= 100 && there; i++) {
        String answer = show(all, "element", d, i);
        there = !answer.isEmpty() && !answer.startsWith("throws");
      }
      for (int e = 0; e < 8; e++) {
        // Rows of one sort answer 0, others a refusal.
        show(all, "copy", d, 0, e, 0, 0);
      }
      show(all, "put", d, 0, 70000);
      show(all, "element", d, 0);
    }

    private String show(StringBuilder all, String name, Object... arguments) {
      if (callsToShow <= 0) {
        return "";
      }
      callsToShow--;
      String answer = answer(name, arguments);
      all.append(answer).append(' ');
      return answer;
    }
  }
}
