import java.lang.reflect.Constructor;
import java.lang.reflect.Field;
import java.lang.reflect.Method;
import java.lang.reflect.Modifier;
import java.nio.file.Files;
import java.nio.file.Path;
import java.util.ArrayList;
import java.util.Arrays;
import java.util.List;
import java.util.Set;
import java.util.TreeSet;

/** The face is the document's and no more; of the language's rules those that can be seen from outside. */
public final class FaceTest {
  private static final Path DOCUMENT = Path.of("../shared/DOC.md");
  private static final Path SOURCE = Path.of("src/main/java/SongFields.java");

  public static void main(String[] args) throws Exception {
    face();
    members(SongFields.class);
    int classes = 1;
    for (Class<?> c : SongFields.class.getDeclaredClasses()) {
      classes++;
      int m = c.getModifiers();
      Checks.is(c + " is static and not public", Modifier.isStatic(m) && !Modifier.isPublic(m) && !Modifier.isProtected(m), true);
      members(c);
    }
    Checks.is("some twelve classes", classes <= 12, true);
    source(Files.readAllLines(SOURCE));
    Checks.end("FaceTest");
  }

  /** The lines of the document's face, as Java tells them. */
  private static void face() throws Exception {
    Set<String> due = new TreeSet<>();
    List<String> lines = Files.readAllLines(DOCUMENT);
    int from = lines.indexOf("public final class SongFields {");
    for (int i = from + 1; !lines.get(i).equals("}"); i++) {
      due.add(lines.get(i).trim().replaceAll("(?<=[(,] ?)(\\w+) \\w+(?=[,)])", "$1").replace(" = -1", ""));
    }
    Set<String> got = new TreeSet<>();
    for (Field f : SongFields.class.getFields()) {
      got.add("public static final " + f.getType() + " " + f.getName() + ";");
    }
    for (Constructor<?> c : SongFields.class.getConstructors()) {
      got.add("public SongFields();");
      Checks.is("no parameters", c.getParameterCount(), 0);
    }
    for (Method m : SongFields.class.getDeclaredMethods()) {
      if (Modifier.isPublic(m.getModifiers())) {
        got.add(told(m));
      }
    }
    Checks.is("constant, constructor, 37 less one methods", got.size(), 38);
    for (String d : due) {
      Checks.is("the face has " + d, got.contains(d), true);
    }
    for (String g : got) {
      Checks.is("the document has " + g, due.contains(g), true);
    }
    Checks.is("final", Modifier.isFinal(SongFields.class.getModifiers()), true);
  }

  private static String told(Method m) {
    StringBuilder all = new StringBuilder("public " + m.getReturnType() + " " + m.getName() + "(");
    String comma = "";
    for (Class<?> p : m.getParameterTypes()) {
      all.append(comma).append(p);
      comma = ", ";
    }
    all.append(")");
    comma = " throws ";
    for (Class<?> e : m.getExceptionTypes()) {
      all.append(comma).append(e.getSimpleName());
      comma = ", ";
    }
    return all.append(";").toString();
  }

  private static void members(Class<?> c) {
    int fields = 0;
    for (Field f : c.getDeclaredFields()) {
      int m = f.getModifiers();
      if (!Modifier.isStatic(m)) {
        fields++;
      } else {
        Checks.is(f + " is final", Modifier.isFinal(m), true);
      }
      if (c == SongFields.class && !f.getName().equals("NONE")) {
        Checks.is(f + " is private", Modifier.isPrivate(m), true);
      }
    }
    Checks.is(c + " has some twenty fields", fields <= 20, true);
    Set<String> open = new TreeSet<>();
    for (Method m : SongFields.class.getDeclaredMethods()) {
      if (Modifier.isPublic(m.getModifiers())) {
        open.add(m.getName());
      }
    }
    for (Method m : c.getDeclaredMethods()) {
      Checks.is(m + " has seven parameters at most", m.getParameterCount() <= 7, true);
      boolean isPublic = Modifier.isPublic(m.getModifiers());
      if (c == SongFields.class) {
        Checks.is(m + " is public or private", isPublic || Modifier.isPrivate(m.getModifiers()), true);
      }
      Checks.is(m + " has a name of its own", !isPublic && open.contains(m.getName()), false);
    }
  }

  private static void source(List<String> lines) {
    List<String> allowed = Arrays.asList("import java.util.Arrays;", "import java.util.NoSuchElementException;");
    List<String> bad = Arrays.asList(
        "->", "::", "try ", "catch ", "finally", "synchronized", "assert ", "System.in", "System.out", "Random",
        "Exact(", "getClass", "hashCode", "toString", "Math.random", "double ", "float ");
    int methodFrom = -1;
    String indent = "";
    List<String> constructors = new ArrayList<>();
    for (int i = 0; i < lines.size(); i++) {
      String line = lines.get(i);
      if (line.startsWith("import ")) {
        Checks.is(line, allowed.contains(line), true);
      }
      String code = line.replaceAll("\"[^\"]*\"", "").replaceAll("//.*|^ *\\*.*|/\\*\\*.*", "");
      for (String b : bad) {
        Checks.is((i + 1) + " has no " + b, code.contains(b), false);
      }
      if (methodFrom < 0 && code.matches("( {2}| {4})[\\w\\[\\] ]+\\(.*\\{|( {2}| {4})public int game\\(.*")) {
        methodFrom = i;
        indent = code.substring(0, code.length() - code.stripLeading().length());
        if (code.matches(" +(public )?[A-Z]\\w+\\(.*")) {
          constructors.add(code.trim());
        }
      }
      boolean inConstructor = methodFrom >= 0 && lines.get(methodFrom).matches(" +(public )?[A-Z]\\w+\\(.*");
      if (methodFrom >= 0 && !inConstructor && code.contains("new ")) {
        Checks.is((i + 1) + " makes an exception alone", code.contains("throw new "), true);
      }
      if (methodFrom >= 0 && line.equals(indent + "}")) {
        Checks.is("method at " + (methodFrom + 1) + " is short", i - methodFrom <= 60, true);
        methodFrom = -1;
      }
    }
    Checks.is("constructors were seen", constructors.size(), 8);
  }
}
