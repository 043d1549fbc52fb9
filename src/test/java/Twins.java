import java.util.function.Supplier;

/** Two objects with the same calls behind them, of which one gets a call more: what is unlike then. */
final class Twins {
  /** A call, whose answer is a number (a boolean counts 1 or 0). */
  interface Call {
    long on(SongFields x);
  }

  private Twins() {}

  static String answer(SongFields x, Call call) {
    try {
      return String.valueOf(call.on(x));
    } catch (RuntimeException e) {
      return "throws " + e.getClass().getSimpleName();
    }
  }

  /** All that can be seen of an object but its tape, its fault's place and its STATUS; changes nothing. */
  static String look(SongFields x) {
    StringBuilder all = new StringBuilder();
    for (int what = 0; what <= 6; what++) {
      all.append(x.count(what)).append(' ');
    }
    all.append("| ").append(x.nearest()).append(' ').append(x.wedding(0)).append(' ').append(x.wedding(1));
    all.append(' ').append(x.heirs(2)).append(' ').append(x.larks(7, 9, 0)).append(' ').append(x.larks(7, 9, 2));
    for (int what = 0; what <= 2; what++) {
      all.append(' ').append(x.otherwise(what));
    }
    all.append(' ').append(x.listen(0)).append(' ').append(x.listen(1));
    int fields = x.count(0);
    int singers = x.count(2);
    for (int f = 0; f < fields; f++) {
      all.append(" | field ").append(f);
      for (int what = 0; what <= 5; what++) {
        all.append(' ').append(x.field(f, what));
      }
      for (int i = 0, notes = x.field(f, 1); i < notes; i++) {
        all.append(' ').append(x.note(f, i));
      }
      all.append(' ').append(x.round(f)).append(' ').append(x.far(0, f));
    }
    for (int s = 0; s < singers; s++) {
      all.append(" | singer ").append(s);
      for (int what = 0; what <= 5; what++) {
        all.append(' ').append(x.singer(s, what));
      }
      for (int i = 0, places = x.singer(s, 0); i < places; i++) {
        all.append(' ').append(x.way(s, i));
      }
      for (int f = 0; f < fields; f++) {
        all.append(' ').append(x.earth(s, f));
      }
      all.append(' ').append(x.sung(s, 2)).append(' ').append(x.purse(s, 5)).append(' ').append(x.trespasses(s, 5, 1));
    }
    return all.toString();
  }

  static String status(SongFields x) {
    return x.count(8) + " " + x.count(9) + " " + x.count(10);
  }

  /** The tape and the place of the fault; the tape is told, and so is gone then. */
  private static String tape(SongFields x) {
    StringBuilder all = new StringBuilder();
    all.append(x.count(7)).append(' ').append(x.fault());
    all.append(' ').append(x.valley(x.count(7))).append(' ').append(x.fault()).append(' ').append(x.count(0));
    return all.toString();
  }

  private static String undone(SongFields x, int many) {
    StringBuilder all = new StringBuilder();
    for (int i = 0; i < many; i++) {
      all.append(x.undo()).append(' ');
    }
    return all.append(look(x)).toString();
  }

  /** STATUS is the image's then; without an image it is the twin's own. */
  private static String restored(SongFields x) {
    boolean done = x.restore();
    return done + " " + look(x) + " " + (done ? status(x) : "") + " " + x.undo() + " " + x.count(3);
  }

  /** A call that answers so, and changes nothing but how many texts, acts, heard were refused. */
  static void refused(String what, Supplier<SongFields> made, Call call, String due, int texts, int acts, int heard) {
    SongFields one = made.get();
    int[] ahead = {one.count(8), one.count(9), one.count(10)};
    Checks.is(what, answer(one, call), due);
    Checks.is(what + ": texts", one.count(8) - ahead[0], texts);
    Checks.is(what + ": acts", one.count(9) - ahead[1], acts);
    Checks.is(what + ": heard", one.count(10) - ahead[2], heard);
    Checks.is(what + ": all else", look(one), look(made.get()));
    Checks.is(what + ": the tape", tape(after(made, call)), tape(made.get()));
    Checks.is(what + ": the last act", undone(after(made, call), 1), undone(made.get(), 1));
    Checks.is(what + ": the acts", undone(after(made, call), 40), undone(made.get(), 40));
    Checks.is(what + ": the image", restored(after(made, call)), restored(made.get()));
  }

  /** A call that changes nothing at all. */
  static void changesNothing(String what, Supplier<SongFields> made, Call call, String due) {
    refused(what, made, call, due, 0, 0, 0);
  }

  private static SongFields after(Supplier<SongFields> made, Call call) {
    SongFields x = made.get();
    answer(x, call);
    return x;
  }
}
