/** Promises 24 to 29: what tunes, paths and acres tell. */
public final class SurveyTest {
  public static void main(String[] args) {
    common();
    nearest();
    far();
    rounds();
    weddings();
    heirs();
    Checks.end("SurveyTest");
  }

  private static void common() {
    SongFields x = Checks.valley("field 1 1 2 3 4 5 6;field 1 6 5 4 3 2 1;field 1 2 4 6;field 1 0 0;field 1 1 3 1 3 1 3;field 1 3 1 3;");
    Checks.is("itself", x.common(0, 0), 6);
    Checks.is("turned", x.common(0, 1), 1);
    Checks.is("with others between", x.common(0, 2), 3);
    Checks.is("the other way", x.common(2, 0), 3);
    Checks.is("nothing", x.common(0, 3), 0);
    Checks.is("more than once", x.common(4, 5), 3);
    Checks.is("1 and 3", x.common(0, 5), 2);
    Checks.is("two of six", x.common(0, 4), 2);
    Checks.noSuch("no field", () -> x.common(6, 0));
    Checks.noSuch("no other", () -> x.common(0, 6));
    Checks.noSuch("below", () -> x.common(-1, 0));
    // Eight tunes of six notes, each one note on, and rounds and heirs between: no call is in another's way.
    SongFields full = Checks.valley(
        "field 1 0 1 2 3 4 5;field 1 1 2 3 4 5 6;field 1 2 3 4 5 6 7;field 1 3 4 5 6 7 8;"
            + "field 1 4 5 6 7 8 9;field 1 5 6 7 8 9 0;field 1 6 7 8 9 0 1;field 1 7 8 9 0 1 2;path 0 1 2;");
    for (int f = 0; f < 8; f++) {
      for (int g = 0; g < 8; g++) {
        int on = Math.abs(f - g);
        Checks.is("no round from " + f, full.round(f), -1);
        Checks.is("common " + f + " " + g, full.common(f, g), on == 7 ? 3 : on == 6 ? 2 : 6 - on);
        Checks.is("heirs", full.heirs(3), 3);
      }
    }
    Checks.is("nearest", full.nearest(), 1);
  }

  private static void nearest() {
    Checks.is("none", new SongFields().nearest(), -1);
    Checks.is("one", Checks.valley("field 1 1 1;").nearest(), -1);
    Checks.is("nothing in common", Checks.valley("field 1 1 1;field 1 2 2;field 1 3 3;").nearest(), 1);
    Checks.is("the most", Checks.valley("field 1 1 1;field 1 2 2;field 1 2 3;field 1 2 3;").nearest(), 23);
    Checks.is("the first of like ones", Checks.valley("field 1 1 1;field 1 2 2;field 1 1 2;field 1 2 1;").nearest(), 2);
    Checks.is("the last couple", Checks.valley("field 1 1 1;".replace("1 1;", "0 0;") + "field 1 1 1;field 1 2 2;field 1 3 3;field 1 4 4;field 1 5 5;field 1 6 7;field 1 6 7;").nearest(), 67);
  }

  private static void far() {
    SongFields x = Checks.valley(
        "field 1 1 1;field 1 1 1;field 1 1 1;field 1 1 1;field 1 1 1;path 0 1 20;path 1 2 1;path 2 3 1;path 3 0 1;");
    Checks.is("round about", x.far(0, 1), 3);
    Checks.is("back", x.far(1, 0), 3);
    Checks.is("itself", x.far(2, 2), 0);
    Checks.is("none", x.far(0, 4), -1);
    Checks.is("itself alone", x.far(4, 4), 0);
    SongFields star = Checks.valley("field 1 1 1;".repeat(4) + "path 1 0 2;path 2 0 3;path 3 0 4;path 1 2 19;");
    Checks.is("by 0", star.far(1, 2), 5);
    Checks.is("by 0", star.far(3, 2), 7);
    Checks.noSuch("no field", () -> x.far(5, 0));
    Checks.noSuch("no other", () -> x.far(0, -1));
  }

  private static void rounds() {
    SongFields x = Checks.valley(Checks.LINE_OF_THREE);
    for (int f = 0; f < 3; f++) {
      Checks.is("there and back " + f, x.round(f), 14);
    }
    Checks.noSuch("no field", () -> x.round(3));
    Checks.noSuch("below", () -> x.round(-1));
    Checks.is("one", Checks.valley("field 1 1 1;").round(0), 0);
    Checks.is("none", Checks.valley("field 1 1 1;field 1 1 1;").round(1), -1);
    Checks.is("a ring", Checks.valley("field 1 1 1;".repeat(4) + "path 0 1 1;path 1 2 2;path 2 3 3;path 3 0 4;").round(2), 10);
    Checks.is("a ring with a dear path", Checks.valley("field 1 1 1;".repeat(4) + "path 0 1 1;path 1 2 2;path 2 3 3;path 3 0 20;").round(2), 12);
    // A star of eight, from its middle and from its rim.
    StringBuilder star = new StringBuilder("field 1 1 1;".repeat(8));
    for (int f = 0; f < 7; f++) {
      star.append("path 7 ").append(f).append(" 20;");
    }
    Checks.is("a star", Checks.valley(star.toString()).round(7), 280);
    Checks.is("from its rim", Checks.valley(star.toString()).round(3), 280);
    Checks.is("a field apart", Checks.valley("field 1 1 1;".repeat(3) + "path 0 1 1;").round(0), -1);
  }

  private static void weddings() {
    SongFields x = Checks.valley(Checks.LINE_OF_THREE);
    Checks.is("where", x.wedding(0), 1);
    Checks.is("how many", x.wedding(1), 7);
    x.hours(1);
    Checks.is("where then", x.wedding(0), 1);
    Checks.is("how many then", x.wedding(1), 4);
    Checks.noSuch("what 2", () -> x.wedding(2));
    Checks.noSuch("what -1", () -> x.wedding(-1));
    SongFields none = Checks.valley("field 1 1 1;field 1 1 1;singer 0;singer 1;");
    Checks.is("apart", none.wedding(0), -1);
    Checks.is("apart", none.wedding(1), -1);
    SongFields alone = Checks.valley("field 1 1 1;field 1 1 1;");
    Checks.is("nobody", alone.wedding(0), 0);
    Checks.is("no steps", alone.wedding(1), 0);
    Checks.is("no fields", new SongFields().wedding(0), -1);
    Checks.is("no fields", new SongFields().wedding(1), -1);
    SongFields like = Checks.valley("field 1 1 1;field 1 1 1;field 1 1 1;path 1 2 5;singer 2;singer 1;");
    Checks.is("of like ones the least", like.wedding(0), 1);
    Checks.is("5", like.wedding(1), 5);
  }

  private static void heirs() {
    SongFields x = Checks.valley(
        "field 7 1 1;field 7 1 1;field 6 1 1;field 6 1 1;field 5 1 1;field 5 1 1;field 4 1 1;field 4 1 1;");
    Checks.is("one", x.heirs(1), 44);
    Checks.is("two", x.heirs(2), 22);
    Checks.is("three", x.heirs(3), 15);
    Checks.is("four", x.heirs(4), 11);
    Checks.is("the larger one", Checks.valley("field 99 1 1;field 2 1 1;").heirs(4), 99);
    Checks.is("no greedy way", Checks.valley("field 8 1 1;field 7 1 1;field 6 1 1;field 5 1 1;field 4 1 1;").heirs(2), 15);
    Checks.is("no fields", new SongFields().heirs(4), 0);
    Checks.illegal("0", () -> x.heirs(0));
    Checks.illegal("5", () -> x.heirs(5));
    Checks.illegal("-1", () -> x.heirs(-1));
  }
}
