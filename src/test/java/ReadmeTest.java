import java.io.ByteArrayOutputStream;
import java.io.File;
import java.io.IOException;
import java.io.PrintStream;
import java.lang.reflect.Method;
import java.lang.reflect.Modifier;
import java.net.URL;
import java.net.URLClassLoader;
import java.nio.charset.StandardCharsets;
import java.nio.file.Files;
import java.nio.file.Path;
import java.util.Set;
import java.util.TreeSet;
import java.util.regex.Matcher;
import java.util.regex.Pattern;
import javax.tools.JavaCompiler;
import javax.tools.ToolProvider;

/** What README.md says is so: its example prints what it says, its tables name every call and every test. */
public final class ReadmeTest {
  private static final Path TESTS = Path.of("src/test/java");

  public static void main(String[] args) throws Exception {
    String page = Files.readString(Path.of("README.md"));
    Checks.is("the example prints", printed(block(page, "java")), block(page, "text"));
    Checks.is("the calls", firstColumn(page, "The calls:").toString(), calls().toString());
    Checks.is("the tests", firstColumn(page, "## Tests").toString(), tests().toString());
    Checks.is(".ci/run can be run", Files.isExecutable(Path.of(".ci/run")), true);
    Checks.end("ReadmeTest");
  }

  /** The only block of its kind on the page. */
  private static String block(String page, String kind) {
    Matcher blocks = Pattern.compile("```" + kind + "\n(.*?)```", Pattern.DOTALL).matcher(page);
    boolean found = blocks.find();
    String text = found ? blocks.group(1) : "";
    Checks.is("one block of " + kind, found && !blocks.find(), true);
    return text;
  }

  private static String printed(String program) throws Exception {
    Path folder = Files.createTempDirectory("example");
    Path source = folder.resolve("Example.java");
    Files.writeString(source, program);
    JavaCompiler compiler = ToolProvider.getSystemJavaCompiler();
    String classes = System.getProperty("java.class.path");
    int result = compiler.run(null, null, null, "-cp", classes, "-d", folder.toString(), source.toString());
    Checks.is("the example compiles", result, 0);
    ByteArrayOutputStream out = new ByteArrayOutputStream();
    PrintStream console = System.out;
    try (URLClassLoader loader = new URLClassLoader(new URL[] {folder.toUri().toURL()})) {
      System.setOut(new PrintStream(out, true, StandardCharsets.UTF_8));
      loader.loadClass("Example").getMethod("main", String[].class).invoke(null, (Object) new String[0]);
    } finally {
      System.setOut(console);
      for (File file : folder.toFile().listFiles()) {
        file.delete();
      }
      Files.delete(folder);
    }
    return out.toString(StandardCharsets.UTF_8).replace(System.lineSeparator(), "\n");
  }

  /** The names in the first column of the table behind these words. */
  private static Set<String> firstColumn(String page, String words) {
    Set<String> names = new TreeSet<>();
    String table = page.substring(page.indexOf(words)).split("\n\n\\| ")[1].split("\n\n")[0];
    for (String row : table.split("\n")) {
      Matcher name = Pattern.compile("`(\\w+)`").matcher(row.replaceFirst("^\\| ", "").split(" \\| ")[0]);
      while (name.find()) {
        Checks.is(name.group(1) + " stands there once", names.add(name.group(1)), true);
      }
    }
    return names;
  }

  private static Set<String> calls() {
    Set<String> names = new TreeSet<>();
    for (Method m : SongFields.class.getDeclaredMethods()) {
      if (Modifier.isPublic(m.getModifiers())) {
        names.add(m.getName());
      }
    }
    return names;
  }

  private static Set<String> tests() throws IOException {
    Set<String> names = new TreeSet<>();
    try (var files = Files.list(TESTS)) {
      files.map(f -> f.getFileName().toString())
          .filter(f -> f.endsWith("Test.java"))
          .forEach(f -> names.add(f.replace(".java", "")));
    }
    return names;
  }
}
