/** Promises 5 to 10: what can be looked at. */
public final class LookTest {
  public static void main(String[] args) {
    counts();
    fields();
    notes();
    singers();
    free();
    ways();
    barrows();
    Checks.end("LookTest");
  }

  private static void counts() {
    SongFields x = Checks.valley(Checks.TWO_WITH_RULES);
    x.feed(0, 0, 0, 0, 0);
    x.hours(2);
    x.hours(99);
    x.hear(0, 1, -1);
    x.hear(0, 0, -1);
    x.hear(0, 31, -1);
    int[] due = {2, 1, 2, 2, 2, 1, 1, 20, 0, 1, 2};
    for (int what = 0; what < due.length; what++) {
      Checks.is("count " + what, x.count(what), due[what]);
    }
    Checks.noSuch("count -1", () -> x.count(-1));
    Checks.noSuch("count 11", () -> x.count(11));
  }

  private static void fields() {
    SongFields x = Checks.valley(Checks.LINE_OF_THREE);
    int[][] due = {{10, 3, 2, 1, 2, 2}, {20, 3, -1, 4, 0, 5}, {30, 4, 1, 2, 0, 2}};
    for (int f = 0; f < 3; f++) {
      for (int what = 0; what < 6; what++) {
        Checks.is("field " + f + " " + what, x.field(f, what), due[f][what]);
      }
    }
    x.hours(1);
    Checks.is("nobody in 0", x.field(0, 3), 0);
    Checks.is("two in 1", x.field(1, 3), 5);
    Checks.noSuch("field 3", () -> x.field(3, 0));
    Checks.noSuch("field -1", () -> x.field(-1, 0));
    Checks.noSuch("what 6", () -> x.field(0, 6));
    Checks.noSuch("what -1", () -> x.field(0, -1));
    // A third lower goes round at 0, needs as many notes, and may be more than one.
    SongFields y = Checks.valley("field 1 0 1;field 1 8 9;field 1 8 9;field 1 8 9 9;field 1 6 7;field 1 2 3;");
    Checks.is("thirds of 0", y.field(0, 4), 6);
    Checks.is("thirds of 1", y.field(1, 4), 16);
    Checks.is("thirds of 3", y.field(3, 4), 0);
    Checks.is("thirds of 5", y.field(5, 4), 1);
    SongFields z = Checks.valley("field 1 5 3;field 1 4 1;field 1 3 2;field 1 3 1;path 0 3 1;path 1 3 1;path 2 3 1;path 2 0 1;");
    Checks.is("each note counts", z.field(0, 4), 8);
    Checks.is("beside 3", z.field(3, 5), 7);
    Checks.is("beside 0", z.field(0, 5), 12);
  }

  private static void notes() {
    SongFields x = Checks.valley("field 1 9 8 7 6 5 4;field 2 0 1;");
    for (int i = 0; i < 6; i++) {
      Checks.is("note " + i, x.note(0, i), 9 - i);
    }
    Checks.noSuch("note 6", () -> x.note(0, 6));
    Checks.noSuch("note -1", () -> x.note(0, -1));
    Checks.noSuch("note 2 of two", () -> x.note(1, 2));
    Checks.noSuch("note of no field", () -> x.note(2, 0));
    Checks.noSuch("note of field -1", () -> x.note(-1, 0));
    Checks.noSuch("note of field 8", () -> x.note(8, 0));
  }

  private static void singers() {
    SongFields x = Checks.valley(Checks.LINE_OF_THREE);
    int[][] due = {{2, 0, 3, 0, 3, 0}, {1, 2, 4, 0, 4, 2}, {1, 1, 2, 0, 2, 1}};
    for (int s = 0; s < 3; s++) {
      for (int what = 0; what < 6; what++) {
        Checks.is("singer " + s + " " + what, x.singer(s, what), due[s][what]);
      }
    }
    Checks.noSuch("singer 3", () -> x.singer(3, 0));
    Checks.noSuch("singer -1", () -> x.singer(-1, 0));
    Checks.noSuch("what 6", () -> x.singer(0, 6));
    Checks.noSuch("what -1", () -> x.singer(0, -1));
    // The way goes round.
    x.hours(1);
    Checks.is("hour 1", x.singer(0, 1), 1);
    x.hours(1);
    Checks.is("hour 2", x.singer(0, 1), 0);
    // Would sing now, being first: what those ahead sing in this hour is not yet known.
    SongFields y = Checks.valley("field 1 1 1;field 1 2 2;singer 1;singer 0;sings 1;");
    Checks.is("the first", y.singer(0, 5), 1);
    Checks.is("the second doesn't know it", y.singer(1, 5), -1);
    SongFields z = Checks.valley("field 1 1 1;field 1 2 2;path 0 1 1;singer 1;singer 0;sings 1;");
    Checks.is("not yet", z.singer(1, 5), -1);
    Checks.is("in this hour", z.sung(1, 1), 1);
  }

  private static void free() {
    SongFields x = Checks.valley(Checks.TWO_WITH_RULES);
    Checks.is("another's is not free", x.singer(0, 4), 1);
    x.load(0, 1, 1);
    Checks.is("with earth it is", x.singer(0, 4), 3);
    x.undo();
    x.sell(1, 0);
    Checks.is("one's own is", x.singer(0, 4), 3);
    x.sell(1, -1);
    Checks.is("nobody's is", x.singer(0, 4), 3);
    x.sell(1, 1);
    x.change(0, 0, 1);
    Checks.is("where one is, too", x.singer(0, 4), 3);
    Checks.is("what one doesn't know is not", x.singer(1, 4), 2);
  }

  private static void ways() {
    SongFields x = Checks.valley("field 1 1 1;field 1 1 1;singer 1 0 1 1 0 0;singer 0;");
    int[] due = {1, 0, 1, 1, 0, 0};
    for (int i = 0; i < 6; i++) {
      Checks.is("way " + i, x.way(0, i), due[i]);
    }
    Checks.noSuch("way 6", () -> x.way(0, 6));
    Checks.noSuch("way -1", () -> x.way(0, -1));
    Checks.noSuch("way 1 of one", () -> x.way(1, 1));
    Checks.noSuch("no singer", () -> x.way(2, 0));
    Checks.noSuch("singer -1", () -> x.way(-1, 0));
    Checks.noSuch("singer 6", () -> x.way(6, 0));
  }

  private static void barrows() {
    SongFields x = Checks.valley(Checks.LINE_OF_THREE);
    Checks.is("empty", x.earth(2, 2), 0);
    x.load(2, 1, 7);
    Checks.is("7", x.earth(2, 1), 7);
    Checks.is("not another's", x.earth(1, 1), 0);
    Checks.is("not of another", x.earth(2, 2), 0);
    SongFields full = Checks.valley("field 1 1 1;".repeat(8) + "singer 7 7 7 7 7 7;".repeat(6));
    for (int i = 0; i < 48; i++) {
      full.load(i / 8, i % 8, 1 + i % 9);
    }
    for (int i = 0; i < 48; i++) {
      Checks.is("each its own " + i, full.earth(i / 8, i % 8), 1 + i % 9);
    }
    for (int s = 0; s < 6; s++) {
      Checks.is("way", full.way(s, 5), 7);
      Checks.is("purse", full.singer(s, 3), 0);
      Checks.is("known", full.singer(s, 2), 128);
    }
    Checks.is("nobody's", full.field(7, 2), -1);
    Checks.noSuch("no singer", () -> x.earth(3, 0));
    Checks.noSuch("no field", () -> x.earth(0, 3));
    Checks.noSuch("singer below", () -> x.earth(-1, 0));
    Checks.noSuch("field below", () -> x.earth(0, -1));
  }
}
