import java.lang.reflect.Method;
import java.nio.file.Files;
import java.nio.file.Path;
import java.util.Set;
import java.util.TreeSet;
import java.util.regex.Matcher;
import java.util.regex.Pattern;

/** The run of calls in README.md answers what stands behind each call, and README.md names every call. */
public final class ReadmeTests {
  private static final Pattern CALL = Pattern.compile("x\\.(\\w+)\\(([^)]*)\\);\\s*// (-?\\w+).*");
  private static int calls = 0;
  private static int wrong = 0;

  public static void main(String[] args) throws Exception {
    String text = Files.readString(Path.of("README.md"));
    runOf(text);
    named(text);
    System.out.println(calls + " calls of README.md, " + wrong + " things not as due");
    if (wrong != 0 || calls == 0) {
      System.exit(1);
    }
  }

  private static void runOf(String text) throws Exception {
    CircuitWays x = new CircuitWays();
    for (String line : text.split("\n")) {
      Matcher m = CALL.matcher(line);
      if (m.matches()) {
        int got = answer(x, m.group(1), m.group(2));
        calls++;
        if (got != value(m.group(3))) {
          wrong++;
          System.out.println(line + " -- answered " + got);
        }
      } else if (line.startsWith("x.")) {
        wrong++;
        System.out.println(line + " -- has no answer behind it");
      }
    }
  }

  private static int answer(CircuitWays x, String name, String list) throws Exception {
    String[] parts = list.isEmpty() ? new String[0] : list.split(", ");
    Method called = method(name);
    Object[] given = new Object[parts.length];
    for (int i = 0; i < parts.length; i++) {
      boolean flag = called.getParameterTypes()[i] == boolean.class;
      given[i] = flag ? (Object) Boolean.valueOf(parts[i]) : (Object) Integer.valueOf(parts[i]);
    }
    return (Integer) called.invoke(x, given);
  }

  private static Method method(String name) {
    for (Method m : CircuitWays.class.getMethods()) {
      if (m.getName().equals(name)) {
        return m;
      }
    }
    throw new IllegalStateException("README.md calls " + name);
  }

  private static int value(String word) {
    switch (word) {
      case "NONE": return CircuitWays.NONE;
      case "BAD": return CircuitWays.BAD;
      case "FULL": return CircuitWays.FULL;
      default: return Integer.parseInt(word);
    }
  }

  private static void named(String text) {
    Set<String> missing = new TreeSet<>();
    for (Method m : CircuitWays.class.getMethods()) {
      if (m.getDeclaringClass() == CircuitWays.class && !text.contains("`" + m.getName() + "`")) {
        missing.add(m.getName());
      }
    }
    if (!missing.isEmpty()) {
      wrong++;
      System.out.println("README.md does not name " + missing);
    }
  }
}
