import java.io.IOException;
import java.lang.reflect.InvocationTargetException;
import java.lang.reflect.Method;
import java.nio.file.DirectoryStream;
import java.nio.file.Files;
import java.nio.file.Path;
import java.util.TreeSet;
import java.util.regex.Matcher;
import java.util.regex.Pattern;

/** What README.md says of calls and of tests holds. */
public final class ReadmeTest {
  private static final Pattern CALL = Pattern.compile("x\\.(\\w+)\\((.*)\\); +// (throws \\w+|-?\\d+).*");
  private static final Pattern IN_TABLE = Pattern.compile("\\w+Test\\b");

  private static final Check check = new Check();

  public static void main(String[] args) throws IOException {
    String readme = Files.readString(Path.of("README.md"));
    toldCallsAreAnsweredSo(readme);
    theTableHasEveryTest(readme);
    check.end();
  }

  private static void toldCallsAreAnsweredSo(String readme) {
    CakesToTheWatched x = new CakesToTheWatched();
    int calls = 0;
    for (String line : readme.split("\n")) {
      if (!line.startsWith("x.")) {
        continue;
      }
      Matcher call = CALL.matcher(line);
      check.holds("a call and its answer: " + line, call.matches());
      String answer = call.matches() ? answer(x, call.group(1), call.group(2)) : "none";
      check.holds(line + " is answered " + answer + "; that it is as told", call.matches() && answer.equals(call.group(3)));
      calls++;
    }
    check.holds("calls are told", calls > 0);
  }

  private static void theTableHasEveryTest(String readme) throws IOException {
    TreeSet<String> told = new TreeSet<>();
    for (String line : readme.split("\n")) {
      Matcher name = IN_TABLE.matcher(line.startsWith("| ") ? line : "");
      while (name.find()) {
        told.add(name.group());
      }
    }
    TreeSet<String> there = new TreeSet<>();
    try (DirectoryStream<Path> tests = Files.newDirectoryStream(Path.of("src/test/java"), "*Test.java")) {
      for (Path test : tests) {
        there.add(test.getFileName().toString().replace(".java", ""));
      }
    }
    check.holds("the table tells of " + told + ", there are " + there + "; that these are the same", told.equals(there));
  }

  private static String answer(CakesToTheWatched x, String name, String inside) {
    String[] parts = inside.isEmpty() ? new String[0] : inside.split(", ");
    Object[] arguments = new Object[parts.length];
    for (int i = 0; i < parts.length; i++) {
      arguments[i] = parts[i].startsWith("'") ? (int) parts[i].charAt(1) : Integer.parseInt(parts[i]);
    }
    try {
      return String.valueOf(methodOf(name).invoke(x, arguments));
    } catch (IllegalAccessException e) {
      throw new IllegalStateException(e);
    } catch (InvocationTargetException e) {
      return "throws " + e.getCause().getClass().getSimpleName();
    }
  }

  private static Method methodOf(String name) {
    for (Method m : CakesToTheWatched.class.getMethods()) {
      if (m.getName().equals(name)) {
        return m;
      }
    }
    throw new IllegalArgumentException("no such call: " + name);
  }
}
