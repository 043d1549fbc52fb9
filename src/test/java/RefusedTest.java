import java.util.function.Supplier;

/** Every call that is refused, in several states: what it answers, and that nothing else than told has changed. */
public final class RefusedTest {
  private static final String NO_SUCH = "throws NoSuchElementException";
  private static final String ILLEGAL = "throws IllegalArgumentException";
  private static final int MAX = Integer.MAX_VALUE;
  private static final int MIN = Integer.MIN_VALUE;

  private static final String THREE =
      "field 10 0 2 4;field 20 8 0 2;field 30 5 5 1 3;path 0 1 3;path 1 2 4;"
          + "singer 0 1;singer 2;singer 1 0 2;knows 0 1;owns 2 0;owns 1 2;sings hour+singer;fines far+hearers*2;";

  public static void main(String[] args) {
    onNewObject();
    looks(RefusedTest::midway);
    looks(RefusedTest::full);
    acts(RefusedTest::midway);
    acts(RefusedTest::full);
    ahead(RefusedTest::midway);
    surveys(RefusedTest::midway);
    heard(RefusedTest::midway);
    plays(RefusedTest::midway);
    whatIsFull();
    lastHour();
    texts(RefusedTest::midway);
    looksChangeNothing(RefusedTest::midway);
    countsOfRefusals();
    Checks.end("RefusedTest");
  }

  private static SongFields three() {
    SongFields x = new SongFields();
    Checks.tell(x, THREE);
    return x;
  }

  /** Some acts, an image, things heard, a tape that is begun, one of each kind refused. */
  private static SongFields midway() {
    SongFields x = three();
    Checks.tell(x, "  @");
    x.teach(1, 0);
    x.load(0, 2, 3);
    x.hours(2);
    x.hear(0, 1, 0);
    x.image();
    x.hours(0);
    x.hear(0, 0, 0);
    x.change(0, 1, 2);
    x.sell(0, -1);
    x.hear(1, 2, -1);
    x.hours(1);
    x.load(1, 1, 2);
    Checks.feed(x, "field 7 7 7;field 8 8 8;");
    return x;
  }

  /** Forty acts, eight heard, 700 bytes. */
  private static SongFields full() {
    SongFields x = three();
    for (int i = 0; i < 43; i++) {
      if (i == 20) {
        x.image();
      }
      x.load(i % 3, i % 2, 1 + i % 9);
    }
    for (int i = 0; i < 8; i++) {
      x.hear(i % 3, 1 + i, -1);
    }
    Checks.feed(x, "field 7 7 7;" + " ".repeat(676) + "field 8 8 8;");
    return x;
  }

  private static void nothing(String what, Supplier<SongFields> made, Twins.Call call, String due) {
    Twins.changesNothing(what, made, call, due);
  }

  private static void act(String what, Supplier<SongFields> made, Twins.Call call, String due) {
    Twins.refused(what, made, call, due, 0, 1, 0);
  }

  private static void hearing(String what, Supplier<SongFields> made, Twins.Call call, String due) {
    Twins.refused(what, made, call, due, 0, 0, 1);
  }

  private static void onNewObject() {
    Supplier<SongFields> made = SongFields::new;
    Checks.sentence("no such FIELD (as everywhere)");
    nothing("field", made, x -> x.field(0, 0), NO_SUCH);
    nothing("note", made, x -> x.note(0, 0), NO_SUCH);
    nothing("allKnow", made, x -> x.allKnow(0), NO_SUCH);
    nothing("common", made, x -> x.common(0, 0), NO_SUCH);
    nothing("far", made, x -> x.far(0, 0), NO_SUCH);
    nothing("round", made, x -> x.round(0), NO_SUCH);
    nothing("hear", made, x -> x.hear(0, 1, -1), NO_SUCH);
    nothing("sell", made, x -> x.sell(0, -1) ? 1 : 0, NO_SUCH);
    Checks.sentence("no such SINGER (as everywhere)");
    nothing("singer", made, x -> x.singer(0, 0), NO_SUCH);
    nothing("way", made, x -> x.way(0, 0), NO_SUCH);
    nothing("earth", made, x -> x.earth(0, 0), NO_SUCH);
    nothing("teach", made, x -> x.teach(0, 0) ? 1 : 0, NO_SUCH);
    nothing("load", made, x -> x.load(0, 0, 1), NO_SUCH);
    nothing("change", made, x -> x.change(0, 0, 0), NO_SUCH);
    nothing("sung", made, x -> x.sung(0, 1), NO_SUCH);
    nothing("learnt", made, x -> x.learnt(0, 0), NO_SUCH);
    nothing("purse", made, x -> x.purse(0, 0), NO_SUCH);
    nothing("trespasses", made, x -> x.trespasses(0, 0, 0), NO_SUCH);
    nothing("lost", made, x -> x.lost(0), NO_SUCH);
    nothing("needed", made, x -> x.needed(0, 0, 1), NO_SUCH);
    nothing("game", made, x -> x.game(0, 1, 0, 0), NO_SUCH);
    act("hours", made, x -> x.hours(31), "-1");
    nothing("undo", made, x -> x.undo(), "-1");
    nothing("restore", made, x -> x.restore() ? 1 : 0, "0");
    nothing("valley", made, x -> x.valley(1), ILLEGAL);
  }

  private static void looks(Supplier<SongFields> made) {
    int[] others = {-1, 3, 8, MAX, MIN};
    for (int no : others) {
      Checks.sentence("no such FIELD (as everywhere)");
      nothing("field", made, x -> x.field(no, 0), NO_SUCH);
      nothing("note", made, x -> x.note(no, 0), NO_SUCH);
      nothing("earth", made, x -> x.earth(0, no), NO_SUCH);
      Checks.sentence("no such SINGER (as everywhere)");
      nothing("singer", made, x -> x.singer(no, 0), NO_SUCH);
      nothing("way", made, x -> x.way(no, 0), NO_SUCH);
      nothing("earth", made, x -> x.earth(no, 0), NO_SUCH);
    }
    Checks.sentence("NoSuchElementException: another what.");
    int[] whats = {-1, 11, MAX, MIN};
    for (int what : whats) {
      nothing("count", made, x -> x.count(what), NO_SUCH);
    }
    Checks.sentence("NoSuchElementException: no such FIELD (as everywhere), what.");
    int[] six = {-1, 6, MAX, MIN};
    for (int what : six) {
      nothing("field", made, x -> x.field(0, what), NO_SUCH);
      nothing("singer", made, x -> x.singer(0, what), NO_SUCH);
    }
    Checks.sentence("The i-th NOTE of a FIELD's TUNE. NoSuchElementException: also there is none.");
    int[] notes = {-1, 3, 6, MAX, MIN};
    for (int i : notes) {
      nothing("note", made, x -> x.note(0, i), NO_SUCH);
    }
    Checks.sentence("The i-th FIELD of a WAY. NoSuchElementException: also there is none.");
    int[] places = {-1, 2, 6, MAX, MIN};
    for (int i : places) {
      nothing("way", made, x -> x.way(0, i), NO_SUCH);
    }
  }

  private static void acts(Supplier<SongFields> made) {
    Checks.sentence("NONE (STATUS 1): not 1 to 30, it would be above 9999.");
    int[] hours = {0, -1, 31, MAX, MIN};
    for (int many : hours) {
      act("hours " + many, made, x -> x.hours(many), "-1");
    }
    Checks.sentence("False (STATUS 1): KNOWN already.");
    act("teach the first of the way", made, x -> x.teach(0, 0) ? 1 : 0, "0");
    act("teach what is told", made, x -> x.teach(0, 1) ? 1 : 0, "0");
    Checks.sentence("LOADS: EARTH then. NONE (STATUS 1): not 1 to 9.");
    int[] much = {0, -1, 10, MAX, MIN};
    for (int m : much) {
      act("load " + m, made, x -> x.load(0, 2, m), "-1");
    }
    Checks.sentence("NONE (STATUS 1): no such place in it.");
    int[] places = {-1, 2, 5, 6, MAX, MIN};
    for (int i : places) {
      act("change " + i, made, x -> x.change(0, i, 1), "-1");
    }
    act("change behind one", made, x -> x.change(1, 1, 1), "-1");
    act("change behind three", made, x -> x.change(2, 3, 1), "-1");
    Checks.sentence("False (STATUS 1): it is so already.");
    act("sell to who has it", made, x -> x.sell(2, 1) ? 1 : 0, "0");
    act("sell to nobody again", made, x -> x.sell(1, -1) ? 1 : 0, "0");
    int[] others = {-1, 3, 6, MAX, MIN};
    for (int no : others) {
      Checks.sentence("no such SINGER (as everywhere)");
      nothing("teach", made, x -> x.teach(no, 0) ? 1 : 0, NO_SUCH);
      nothing("load", made, x -> x.load(no, 0, 1), NO_SUCH);
      nothing("load not 1 to 9", made, x -> x.load(no, 0, 0), NO_SUCH);
      if (no != -1) {
        nothing("sell", made, x -> x.sell(0, no) ? 1 : 0, NO_SUCH);
      }
      Checks.sentence("no such FIELD (as everywhere)");
      nothing("teach", made, x -> x.teach(0, no) ? 1 : 0, NO_SUCH);
      nothing("load", made, x -> x.load(0, no, 1), NO_SUCH);
      nothing("load not 1 to 9", made, x -> x.load(0, no, 10), NO_SUCH);
      nothing("sell", made, x -> x.sell(no, 0) ? 1 : 0, NO_SUCH);
      nothing("sell to nobody", made, x -> x.sell(no, -1) ? 1 : 0, NO_SUCH);
      Checks.sentence("NoSuchElementException (ahead): no such SINGER, FIELD.");
      nothing("change", made, x -> x.change(no, 0, 0), NO_SUCH);
      nothing("change", made, x -> x.change(0, 0, no), NO_SUCH);
      nothing("change at no place", made, x -> x.change(no, 9, 0), NO_SUCH);
      nothing("change at no place", made, x -> x.change(0, -1, no), NO_SUCH);
    }
    Checks.sentence("SOLD (singer NONE: to nobody): true.");
    nothing("sell to -2", made, x -> x.sell(0, -2) ? 1 : 0, NO_SUCH);
  }

  private static void ahead(Supplier<SongFields> made) {
    int[] from1 = {0, -1, 61, MAX, MIN};
    int[] from0 = {-1, 61, MAX, MIN};
    int[] others = {-1, 3, MAX, MIN};
    Checks.sentence("SUNG; NONE: silent. IllegalArgumentException (behind NoSuchElementException): not 1 to 60.");
    for (int k : from1) {
      nothing("sung " + k, made, x -> x.sung(0, k), ILLEGAL);
      nothing("sung by nobody " + k, made, x -> x.sung(3, k), NO_SUCH);
    }
    Checks.sentence("PURSE. IllegalArgumentException (behind NoSuchElementException): not 0 to 60.");
    for (int hours : from0) {
      nothing("purse " + hours, made, x -> x.purse(0, hours), ILLEGAL);
      nothing("purse of nobody " + hours, made, x -> x.purse(-1, hours), NO_SUCH);
    }
    Checks.sentence("NoSuchElementException: also another what. IllegalArgumentException (behind that): not 0 to 60.");
    int[] whats = {-1, 2, MAX, MIN};
    for (int hours : from0) {
      nothing("trespasses", made, x -> x.trespasses(0, hours, 0), ILLEGAL);
      nothing("trespasses", made, x -> x.trespasses(0, hours, 1), ILLEGAL);
      nothing("trespasses of nobody", made, x -> x.trespasses(3, hours, 0), NO_SUCH);
      nothing("trespasses, what", made, x -> x.trespasses(0, hours, 2), NO_SUCH);
    }
    for (int what : whats) {
      nothing("trespasses, what", made, x -> x.trespasses(0, 5, what), NO_SUCH);
    }
    Checks.sentence("EARTH NEEDED; NONE: none. IllegalArgumentException (behind NoSuchElementException): not 1 to 60.");
    for (int hours : from1) {
      nothing("needed", made, x -> x.needed(0, 0, hours), ILLEGAL);
      nothing("needed by an owner", made, x -> x.needed(1, 2, hours), ILLEGAL);
      nothing("needed by nobody", made, x -> x.needed(3, 0, hours), NO_SUCH);
      nothing("needed of none", made, x -> x.needed(0, 3, hours), NO_SUCH);
    }
    for (int no : others) {
      nothing("sung", made, x -> x.sung(no, 1), NO_SUCH);
      nothing("learnt", made, x -> x.learnt(no, 0), NO_SUCH);
      nothing("learnt", made, x -> x.learnt(0, no), NO_SUCH);
      nothing("purse", made, x -> x.purse(no, 1), NO_SUCH);
      nothing("trespasses", made, x -> x.trespasses(no, 1, 1), NO_SUCH);
      nothing("allKnow", made, x -> x.allKnow(no), NO_SUCH);
      nothing("lost", made, x -> x.lost(no), NO_SUCH);
      nothing("needed", made, x -> x.needed(no, 0, 1), NO_SUCH);
      nothing("needed", made, x -> x.needed(0, no, 1), NO_SUCH);
    }
  }

  private static void surveys(Supplier<SongFields> made) {
    int[] others = {-1, 3, 8, MAX, MIN};
    for (int no : others) {
      nothing("common", made, x -> x.common(no, 0), NO_SUCH);
      nothing("common", made, x -> x.common(0, no), NO_SUCH);
      nothing("far", made, x -> x.far(no, 0), NO_SUCH);
      nothing("far", made, x -> x.far(0, no), NO_SUCH);
      nothing("round", made, x -> x.round(no), NO_SUCH);
    }
    Checks.sentence("NONE: none, no FIELDS. NoSuchElementException: another what.");
    int[] whats = {-1, 2, MAX, MIN};
    for (int what : whats) {
      nothing("wedding", made, x -> x.wedding(what), NO_SUCH);
      nothing("wedding on a new object", SongFields::new, x -> x.wedding(what), NO_SUCH);
    }
    Checks.sentence("HEIRS (0 without FIELDS). IllegalArgumentException: not 1 to 4.");
    int[] many = {0, -1, 5, MAX, MIN};
    for (int m : many) {
      nothing("heirs", made, x -> x.heirs(m), ILLEGAL);
      nothing("heirs on a new object", SongFields::new, x -> x.heirs(m), ILLEGAL);
    }
  }

  private static void heard(Supplier<SongFields> made) {
    Checks.sentence("NONE (STATUS 2): there are 8, not 1 to 30.");
    int[] hours = {0, -1, 31, MAX, MIN};
    for (int k : hours) {
      hearing("hear " + k, made, x -> x.hear(0, k, 0), "-1");
      hearing("hear none " + k, made, x -> x.hear(0, k, -1), "-1");
    }
    Checks.sentence("NoSuchElementException (ahead): no such FIELD, TUNE's FIELD.");
    int[] others = {-2, 3, 8, MAX, MIN};
    for (int no : others) {
      nothing("hear", made, x -> x.hear(no, 1, 0), NO_SUCH);
      nothing("hear", made, x -> x.hear(0, 1, no), NO_SUCH);
      nothing("hear not 1 to 30", made, x -> x.hear(no, 0, 0), NO_SUCH);
      nothing("hear not 1 to 30", made, x -> x.hear(0, 31, no), NO_SUCH);
    }
    nothing("hear in -1", made, x -> x.hear(-1, 1, -1), NO_SUCH);
    Checks.sentence("the first (1; NONE: none), whether without (2). NoSuchElementException: another what.");
    int[] three = {-1, 3, MAX, MIN};
    for (int what : three) {
      nothing("otherwise", made, x -> x.otherwise(what), NO_SUCH);
      nothing("otherwise on a new object", SongFields::new, x -> x.otherwise(what), NO_SUCH);
    }
    Checks.sentence("how many (1; 0: none). NoSuchElementException: another what.");
    int[] two = {-1, 2, MAX, MIN};
    for (int what : two) {
      nothing("listen", made, x -> x.listen(what), NO_SUCH);
      nothing("listen on a new object", SongFields::new, x -> x.listen(what), NO_SUCH);
    }
  }

  private static void plays(Supplier<SongFields> made) {
    Checks.sentence("NoSuchElementException: also another what. IllegalArgumentException (behind that): both are one");
    int[] others = {-1, 3, MAX, MIN};
    for (int no : others) {
      nothing("game", made, x -> x.game(no, 1, 0, 0), NO_SUCH);
      nothing("game", made, x -> x.game(0, no, 0, 0), NO_SUCH);
      nothing("game", made, x -> x.game(no, no, 0, 0), NO_SUCH);
      nothing("game", made, x -> x.game(0, 1, no, 0), NO_SUCH);
      nothing("game of one", made, x -> x.game(0, 0, no, 0), NO_SUCH);
    }
    int[] two = {-1, 2, MAX, MIN};
    for (int what : two) {
      nothing("game, what", made, x -> x.game(0, 1, 0, what), NO_SUCH);
      nothing("game of one, what", made, x -> x.game(0, 0, 0, what), NO_SUCH);
      nothing("game that one doesn't know, what", made, x -> x.game(2, 0, 2, what), NO_SUCH);
    }
    nothing("game of one", made, x -> x.game(0, 0, 0, 0), ILLEGAL);
    nothing("game of one", made, x -> x.game(2, 2, 1, 1), ILLEGAL);
    Checks.sentence("one doesn't KNOW it.");
    nothing("the first doesn't", RefusedTest::three, x -> x.game(2, 0, 0, 0), ILLEGAL);
    nothing("the other doesn't", RefusedTest::three, x -> x.game(0, 2, 0, 1), ILLEGAL);
    nothing("neither does", RefusedTest::three, x -> x.game(0, 2, 2, 1), ILLEGAL);
    Checks.sentence("PURSE (2; 0 without SINGERS). NoSuchElementException: another what. IllegalArgumentException (behind that): n.");
    int[] hours = {-1, 61, MAX, MIN};
    int[] three = {-1, 3, MAX, MIN};
    for (int i = 0; i < 4; i++) {
      int n = hours[i];
      int what = three[i];
      nothing("larks", made, x -> x.larks(5, n, 0), ILLEGAL);
      nothing("larks", made, x -> x.larks(5, n, 2), ILLEGAL);
      nothing("larks on a new object", SongFields::new, x -> x.larks(5, n, 1), ILLEGAL);
      nothing("larks, what", made, x -> x.larks(5, 5, what), NO_SUCH);
      nothing("larks, what and n", made, x -> x.larks(5, n, what), NO_SUCH);
      nothing("larks, what and n, on a new object", SongFields::new, x -> x.larks(5, n, what), NO_SUCH);
    }
  }

  private static void whatIsFull() {
    Supplier<SongFields> made = RefusedTest::full;
    Checks.is("forty acts", full().count(5), 40);
    Checks.is("eight heard", full().count(6), 8);
    Checks.is("700 bytes", full().count(7), 700);
    Checks.sentence("NONE, and none come, if it would have more than 700.");
    nothing("feed", made, x -> x.feed(0x40404040, 0, 0, 0, 0x40404040), "-1");
    Checks.sentence("NONE (STATUS 2): there are 8, not 1 to 30.");
    hearing("the ninth", made, x -> x.hear(0, 1, 0), "-1");
    hearing("the ninth in the 30th hour", made, x -> x.hear(0, 30, -1), "-1");
    hearing("the ninth, and not 1 to 30, is one refusal", made, x -> x.hear(0, 31, 0), "-1");
    nothing("the ninth of no FIELD", made, x -> x.hear(3, 1, 0), NO_SUCH);
    nothing("the ninth of no TUNE", made, x -> x.hear(0, 1, 3), NO_SUCH);
    Checks.sentence("IllegalArgumentException: the tape has not so many");
    nothing("valley 701", made, x -> x.valley(701), ILLEGAL);
  }

  private static SongFields atLastHour() {
    SongFields x = new SongFields();
    Checks.tell(x, "field 10 0 2;field 20 8 0;singer 0 1;knows 0 1;sings hour;");
    for (int i = 0; i < 333; i++) {
      x.hours(30);
    }
    x.hours(9);
    return x;
  }

  private static void lastHour() {
    Checks.sentence("NONE (STATUS 1): not 1 to 30, it would be above 9999.");
    Supplier<SongFields> made = RefusedTest::atLastHour;
    Checks.is("the hour", made.get().count(3), 9999);
    act("one hour", made, x -> x.hours(1), "-1");
    act("30 hours", made, x -> x.hours(30), "-1");
    act("31 hours are one refusal", made, x -> x.hours(31), "-1");
    act("the greatest int", made, x -> x.hours(MAX), "-1");
  }

  /** Behind a FAULT the tape is empty and the place is its own, but all else is as it was. */
  private static void texts(Supplier<SongFields> made) {
    Checks.sentence("IllegalArgumentException: the tape has not so many, n below 0 (nothing changes).");
    int[] wrong = {-1, 41, 700, MAX, MIN};
    for (int n : wrong) {
      nothing("valley " + n, made, x -> x.valley(n), ILLEGAL);
    }
    Checks.sentence("or the FAULT (all stays, but STATUS).");
    SongFields one = made.get();
    SongFields two = made.get();
    Checks.is("cut in the second field", one.valley(20), 1);
    Checks.is("at its end", one.fault(), 20);
    Checks.is("a text is refused", one.count(8), two.count(8) + 1);
    Checks.is("acts are not", one.count(9), two.count(9));
    Checks.is("what is heard is not", one.count(10), two.count(10));
    Checks.is("all else", Twins.look(one), Twins.look(two));
    Checks.is("the tape is empty", one.count(7), 0);
    for (int i = 0; i < 8; i++) {
      Checks.is("undone alike", one.undo(), two.undo());
    }
    Checks.is("alike", Twins.look(one), Twins.look(two));
    Checks.is("restored", one.restore() && two.restore(), true);
    Checks.is("alike", Twins.look(one), Twins.look(two));
    Checks.is("status, too", Twins.status(one), Twins.status(two));
  }

  /** What only asks, and what finds nothing to do, changes nothing. */
  private static void looksChangeNothing(Supplier<SongFields> made) {
    Checks.sentence("(If only HOURS go by, from now on:)");
    Twins.Call[] calls = {
      x -> x.fault(), x -> x.count(3), x -> x.field(0, 3), x -> x.note(0, 0), x -> x.singer(0, 4), x -> x.singer(0, 5),
      x -> x.way(0, 0), x -> x.earth(0, 0), x -> x.sung(0, 60), x -> x.learnt(2, 2), x -> x.purse(0, 60),
      x -> x.trespasses(0, 60, 0), x -> x.trespasses(0, 60, 1), x -> x.allKnow(0), x -> x.lost(0),
      x -> x.needed(1, 0, 60), x -> x.needed(0, 2, 60), x -> x.common(0, 1), x -> x.nearest(), x -> x.far(0, 2),
      x -> x.round(0), x -> x.wedding(0), x -> x.wedding(1), x -> x.heirs(4), x -> x.otherwise(0), x -> x.otherwise(1),
      x -> x.otherwise(2), x -> x.listen(0), x -> x.listen(1), x -> x.game(0, 1, 0, 0), x -> x.game(0, 1, 0, 1),
      x -> x.larks(3, 60, 0), x -> x.larks(3, 60, 1), x -> x.larks(3, 60, 2)
    };
    for (int i = 0; i < calls.length; i++) {
      nothing("look " + i, made, calls[i], Twins.answer(made.get(), calls[i]));
      Checks.is("it answers", Twins.answer(made.get(), calls[i]).startsWith("throws"), false);
    }
    Checks.sentence("`int undo()`: The last ACT is UNDONE: how many are left. NONE: there is none.");
    nothing("undo", RefusedTest::three, x -> x.undo(), "-1");
    Checks.sentence("It is as the IMAGE again: true. False: there is none.");
    nothing("restore", RefusedTest::three, x -> x.restore() ? 1 : 0, "0");
    Checks.sentence("All that is HEARD is forgotten.");
    nothing("forget", RefusedTest::three, x -> { x.forget(); return 0; }, "0");
  }

  private static void countsOfRefusals() {
    Checks.sentence("STATUS: how many calls were refused: 0 TEXTS with a FAULT, 1 ACTS, 2 what is HEARD.");
    SongFields x = three();
    for (int i = 1; i <= 20; i++) {
      Checks.tell(x, "@");
      Checks.is("texts", Twins.status(x), i + " " + (i - 1) * 5 + " " + (i - 1));
      x.hours(0);
      x.teach(0, 0);
      x.load(0, 0, 0);
      x.change(0, 2, 0);
      x.sell(0, 2);
      Checks.is("acts", Twins.status(x), i + " " + i * 5 + " " + (i - 1));
      x.hear(0, 0, 0);
      Checks.is("heard", Twins.status(x), i + " " + i * 5 + " " + i);
    }
    Checks.is("none of them is an act", x.count(5), 0);
    Checks.is("nothing is heard", x.count(6), 0);
  }
}
