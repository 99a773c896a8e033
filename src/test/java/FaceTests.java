import java.lang.reflect.Constructor;
import java.lang.reflect.Field;
import java.lang.reflect.Method;
import java.lang.reflect.Modifier;
import java.nio.file.Files;
import java.nio.file.Path;
import java.util.Arrays;
import java.util.Set;
import java.util.TreeSet;
import java.util.regex.Matcher;
import java.util.regex.Pattern;

/** The public face of the class, and what of LANGUAGE.md can be seen without running it. */
public final class FaceTests {
  private static final String[] FACE = {
    "node(int)", "arc(int,int,int)", "lose(int,int)", "price(int,int)", "ahead(int,int,boolean)", "rule(int,int)",
    "best()", "many()", "first(int)", "with(int,int)", "without(int)", "filter(int)", "weight(int,int)", "bound()",
    "edge(int,int)", "degree(int)", "pairing()", "next(int,int)", "circle(int)", "nearest(int)", "put(int)",
    "keep(int)", "check()", "insert(int)", "count(int)",
  };
  private static int wrong = 0;

  private static void tell(boolean fine, String what) {
    if (!fine) {
      wrong++;
      System.out.println(what);
    }
  }

  public static void main(String[] args) throws Exception {
    methods();
    members();
    constants();
    nested();
    words();
    System.out.println(wrong == 0 ? "the face is as due" : wrong + " things are not as due");
    if (wrong != 0) {
      System.exit(1);
    }
  }

  private static void methods() {
    Set<String> found = new TreeSet<>();
    Set<String> names = new TreeSet<>();
    for (Method m : CircuitWays.class.getDeclaredMethods()) {
      if (Modifier.isPublic(m.getModifiers())) {
        names.add(m.getName());
        tell(m.getReturnType() == int.class, "returns no int: " + m);
        found.add(m.getName() + Arrays.toString(m.getParameterTypes()).replaceAll("[\\[\\] ]", "").replaceAll("^", "(") + ")");
      }
    }
    Set<String> due = new TreeSet<>(Arrays.asList(FACE));
    tell(found.equals(due), "public methods are " + found + ", due are " + due);
    for (Class<?> c : CircuitWays.class.getDeclaredClasses()) {
      for (Method m : c.getDeclaredMethods()) {
        tell(!names.contains(m.getName()), "bears the name of a public method: " + m);
      }
    }
  }

  private static void members() {
    tell(Modifier.isPublic(CircuitWays.class.getModifiers()) && Modifier.isFinal(CircuitWays.class.getModifiers()),
        "the class is not public and final");
    Constructor<?>[] constructors = CircuitWays.class.getDeclaredConstructors();
    tell(constructors.length == 1 && constructors[0].getParameterCount() == 0
        && Modifier.isPublic(constructors[0].getModifiers()), "constructors");
    for (Method m : CircuitWays.class.getDeclaredMethods()) {
      tell(Modifier.isPublic(m.getModifiers()) || Modifier.isPrivate(m.getModifiers()), "can be seen: " + m);
      tell(m.getParameterCount() <= 7, "more than seven parameters: " + m);
    }
    Set<String> shown = new TreeSet<>();
    for (Field f : CircuitWays.class.getDeclaredFields()) {
      if (!Modifier.isPrivate(f.getModifiers())) {
        shown.add(f.getName());
      }
      tell(!Modifier.isStatic(f.getModifiers()) || Modifier.isFinal(f.getModifiers()), "static and not final: " + f);
    }
    tell(shown.equals(Set.of("NONE", "BAD", "FULL")), "fields that can be seen: " + shown);
  }

  private static void constants() {
    tell(CircuitWays.NONE == -1000000, "NONE");
    tell(CircuitWays.BAD == -2000000, "BAD");
    tell(CircuitWays.FULL == -3000000, "FULL");
  }

  private static void nested() {
    Class<?>[] classes = CircuitWays.class.getDeclaredClasses();
    tell(classes.length < 12, "too many classes: " + classes.length);
    for (Class<?> c : classes) {
      tell(Modifier.isStatic(c.getModifiers()) && !Modifier.isPublic(c.getModifiers()), "not static, or public: " + c);
      tell(c.getDeclaredFields().length <= 20, "more than twenty fields: " + c);
    }
  }

  private static final String[] RULED_OUT = {"throw", "throws", "try", "catch", "synchronized", "assert", "import",
    "package", "protected", "volatile", "native", "double", "float", "Object", "Exact", "System", "Thread", "Random"};

  private static void words() throws Exception {
    Path file = Path.of("src/main/java/CircuitWays.java");
    String text = Files.readString(file).replaceAll("(?s)/\\*.*?\\*/", "").replaceAll("//[^\n]*", "");
    for (String word : RULED_OUT) {
      Matcher m = Pattern.compile("\\b" + word + "\\b").matcher(text);
      tell(!m.find(), "a word that is ruled out: " + word);
    }
    tell(!text.contains("->") && !text.contains("::"), "a lambda or a method reference");
    int start = 0;
    String[] lines = Files.readString(file).split("\n");
    for (int i = 0; i < lines.length; i++) {
      if (lines[i].endsWith(") {") && lines[i].matches(" {4}( {4})?[a-z].*")) {
        start = i;
      }
      tell(!lines[i].matches(" {4}( {4})?\\}") || i - start < 60, "a long method ends at line " + (i + 1));
      tell(lines[i].length() <= 120, "a long line: " + (i + 1));
    }
  }
}
