import java.lang.reflect.Constructor;
import java.lang.reflect.Field;
import java.lang.reflect.Method;
import java.lang.reflect.Modifier;
import java.nio.file.Files;
import java.nio.file.Path;
import java.util.List;
import java.util.Set;
import java.util.TreeSet;

/** The face is the document's and no more, as the language's rule 1 asks. */
public final class FaceTest {
  private static final Path DOCUMENT = Path.of("../shared/DOC.md");

  public static void main(String[] args) throws Exception {
    face();
    members(SongFields.class);
    for (Class<?> c : SongFields.class.getDeclaredClasses()) {
      int m = c.getModifiers();
      Checks.is(c + " is static and not public", Modifier.isStatic(m) && !Modifier.isPublic(m) && !Modifier.isProtected(m), true);
      members(c);
    }
    Checks.end("FaceTest");
  }

  /** The lines of the document's face, as Java tells them. */
  private static void face() throws Exception {
    Set<String> due = new TreeSet<>();
    List<String> lines = Files.readAllLines(DOCUMENT);
    int from = lines.indexOf("public final class SongFields {");
    for (int i = from + 1; !lines.get(i).equals("}"); i++) {
      due.add(lines.get(i).trim().replaceAll("(?<=[(,] ?)(\\w+) \\w+(?=[,)])", "$1").replace(" = -1", ""));
    }
    Set<String> got = new TreeSet<>();
    for (Field f : SongFields.class.getFields()) {
      got.add("public static final " + f.getType() + " " + f.getName() + ";");
    }
    for (Constructor<?> c : SongFields.class.getConstructors()) {
      got.add("public SongFields();");
      Checks.is("no parameters", c.getParameterCount(), 0);
    }
    for (Method m : SongFields.class.getDeclaredMethods()) {
      if (Modifier.isPublic(m.getModifiers())) {
        got.add(told(m));
      }
    }
    Checks.is("constant, constructor, 37 less one methods", got.size(), 38);
    for (String d : due) {
      Checks.is("the face has " + d, got.contains(d), true);
    }
    for (String g : got) {
      Checks.is("the document has " + g, due.contains(g), true);
    }
    Checks.is("final", Modifier.isFinal(SongFields.class.getModifiers()), true);
    Checks.is("NONE", SongFields.NONE, -1);
  }

  private static String told(Method m) {
    StringBuilder all = new StringBuilder("public " + m.getReturnType() + " " + m.getName() + "(");
    String comma = "";
    for (Class<?> p : m.getParameterTypes()) {
      all.append(comma).append(p);
      comma = ", ";
    }
    all.append(")");
    comma = " throws ";
    for (Class<?> e : m.getExceptionTypes()) {
      all.append(comma).append(e.getSimpleName());
      comma = ", ";
    }
    return all.append(";").toString();
  }

  private static void members(Class<?> c) {
    for (Field f : c.getDeclaredFields()) {
      if (c == SongFields.class && !f.getName().equals("NONE")) {
        Checks.is(f + " is private", Modifier.isPrivate(f.getModifiers()), true);
      }
    }
    Set<String> open = new TreeSet<>();
    for (Method m : SongFields.class.getDeclaredMethods()) {
      if (Modifier.isPublic(m.getModifiers())) {
        open.add(m.getName());
      }
    }
    for (Method m : c.getDeclaredMethods()) {
      boolean isPublic = Modifier.isPublic(m.getModifiers());
      if (c == SongFields.class) {
        Checks.is(m + " is public or private", isPublic || Modifier.isPrivate(m.getModifiers()), true);
      }
      Checks.is(m + " has a name of its own", !isPublic && open.contains(m.getName()), false);
    }
  }
}
