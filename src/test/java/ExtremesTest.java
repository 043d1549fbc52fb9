import java.lang.reflect.InvocationTargetException;
import java.lang.reflect.Method;
import java.lang.reflect.Modifier;
import java.util.Arrays;
import java.util.List;
import java.util.Random;

/** Every method with far-off arguments in many states: it answers, or throws what its face declares. */
public final class ExtremesTest {
  private static final int[] SOME = {
    Integer.MIN_VALUE, Integer.MIN_VALUE + 1, -99, -2, -1, 0, 1, 2, 3, 5, 6, 7, 8, 9, 10, 29, 30, 31, 59, 60, 61, 99,
    700, 701, 9999, 65536, Integer.MAX_VALUE - 1, Integer.MAX_VALUE
  };

  private static final String FULL =
      "field 99 9 9 9 9 9 9;".repeat(8)
          + "path 0 1 20;path 1 2 20;path 2 3 20;path 3 4 20;path 4 5 20;path 5 6 20;path 6 7 20;"
          + "singer 7 6 5 4 3 2;".repeat(5)
          + "singer 0 1 2 3 4 5;owns 0 7;owns 5 0;sings hour*9999*9999*9999-purse/known+singer*field;"
          + "fines 9999*9999*9999*far/hearers-purse*acres+notes;";

  public static void main(String[] args) throws Exception {
    String[] texts = {"", "field 1 1 1;", "field 1 1 1;field 1 2 2;", Checks.LINE_OF_THREE, Checks.TWO_WITH_RULES, FULL};
    for (int run = 0; run < 600; run++) {
      SongFields x = new SongFields();
      if (run % 7 != 0) {
        Checks.is("a text", Checks.tell(x, texts[run % texts.length]), 0);
      }
      calls(x, new Random(run));
    }
    Checks.end("ExtremesTest");
  }

  private static void calls(SongFields x, Random random) throws IllegalAccessException {
    Method[] methods = SongFields.class.getDeclaredMethods();
    Arrays.sort(methods, (a, b) -> a.getName().compareTo(b.getName()));
    for (int i = 0; i < 400; i++) {
      Method m = methods[random.nextInt(methods.length)];
      if (!Modifier.isPublic(m.getModifiers())) {
        continue;
      }
      Object[] given = new Object[m.getParameterCount()];
      for (int j = 0; j < given.length; j++) {
        given[j] = random.nextInt(3) == 0 ? SOME[random.nextInt(SOME.length)] : random.nextInt(4);
      }
      call(x, m, given);
    }
  }

  private static void call(SongFields x, Method m, Object[] given) throws IllegalAccessException {
    List<Class<?>> declared = Arrays.asList(m.getExceptionTypes());
    try {
      m.invoke(x, given);
      Checks.is(m.getName(), true, true);
    } catch (InvocationTargetException e) {
      boolean known = declared.contains(e.getCause().getClass());
      Checks.is(m.getName() + Arrays.toString(given) + " threw " + e.getCause(), known, true);
    }
  }
}
