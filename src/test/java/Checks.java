import java.io.IOException;
import java.nio.file.Files;
import java.nio.file.Path;
import java.util.function.LongSupplier;

/** What the tests by hand share: counting, telling what is wrong, and telling a valley. */
final class Checks {
  private static final Path DOCUMENT = Path.of("../shared/DOC.md");
  private static int passed = 0;
  private static int failed = 0;
  private static String document = "";
  private static String sentence = "";

  static final String LINE_OF_THREE =
      "field 10 0 2 4;field 20 8 0 2;field 30 5 5 1 3;path 0 1 3;path 1 2 4;"
          + "singer 0 1;singer 2;singer 1;knows 0 1;owns 2 0;owns 1 2;";

  static final String TWO_WITH_RULES =
      "field 5 1 2;field 9 3 4;path 0 1 6;singer 0;singer 1;knows 0 1;owns 1 1;"
          + "sings field+1;fines far*2+hearers;";

  private Checks() {}

  /** What comes tests these words of the document: a failure names them, and they must stand there. */
  static void sentence(String words) {
    if (document.isEmpty()) {
      try {
        document = Files.readString(DOCUMENT).replaceAll("\\s+", " ");
      } catch (IOException e) {
        document = "no document";
      }
    }
    sentence = "";
    is("the document says: " + words, document.contains(words), true);
    sentence = " [" + words + "]";
  }

  private static void wrong(String text) {
    failed++;
    System.out.println(text + sentence);
  }

  static void is(String what, long got, long want) {
    if (got == want) {
      passed++;
    } else {
      wrong(what + " answered " + got + ", due is " + want);
    }
  }

  static void is(String what, String got, String want) {
    if (got.equals(want)) {
      passed++;
    } else {
      wrong(what + " answered " + got + ", due is " + want);
    }
  }

  static void is(String what, boolean got, boolean want) {
    is(what, got ? 1 : 0, want ? 1 : 0);
  }

  static void throwsIt(String what, Class<? extends RuntimeException> due, LongSupplier call) {
    String got;
    try {
      got = "answered " + call.getAsLong();
    } catch (RuntimeException e) {
      if (e.getClass() == due) {
        passed++;
        return;
      }
      got = "threw " + e.getClass().getSimpleName();
    }
    wrong(what + " " + got + ", due is " + due.getSimpleName());
  }

  static void noSuch(String what, LongSupplier call) {
    throwsIt(what, java.util.NoSuchElementException.class, call);
  }

  static void illegal(String what, LongSupplier call) {
    throwsIt(what, IllegalArgumentException.class, call);
  }

  /** The text's bytes, twenty at a time, blanks behind it. */
  static void feed(SongFields x, String text) {
    for (int i = 0; i < text.length(); i += 20) {
      int[] w = new int[5];
      for (int j = 0; j < 20; j++) {
        w[j / 4] = w[j / 4] << 8 | (i + j < text.length() ? text.charAt(i + j) & 255 : 32);
      }
      x.feed(w[0], w[1], w[2], w[3], w[4]);
    }
  }

  static int tell(SongFields x, String text) {
    feed(x, text);
    return x.valley(text.length());
  }

  static SongFields valley(String text) {
    SongFields x = new SongFields();
    is("valley of " + text, tell(x, text), 0);
    return x;
  }

  /** A text on a new object: its fault and the place (kind 0: none). */
  static void fault(String text, int kind, int place) {
    SongFields x = new SongFields();
    is("valley of " + text, tell(x, text), kind);
    is("fault of " + text, x.fault(), kind == 0 ? -1 : place);
    is("refused texts by " + text, x.count(8), kind == 0 ? 0 : 1);
  }

  /** No fault in a text. */
  static void stands(String text) {
    fault(text, 0, -1);
  }

  static void end(String name) {
    System.out.println(name + ": " + passed + " passed, " + failed + " failed");
    if (failed != 0) {
      System.exit(1);
    }
  }
}
