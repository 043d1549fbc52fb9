/** Promise 3, 'all anew': behind a larger valley a smaller one is as on a new object. */
public final class AnewTest {
  private static final String LARGE =
      "field 99 9 9 9 9 9 9;field 98 7 7 7 7 7 7;field 97 1 2 3 4 5 6;field 96 9 8 7 6 5 4;"
          + "field 95 2 2;field 94 3 3 3;field 93 4 4 4 4;field 92 5 5 5 5 5;"
          + "path 0 1 20;path 1 2 19;path 2 3 18;path 3 4 17;path 4 5 16;path 5 6 15;path 6 7 14;path 7 0 13;"
          + "path 0 2 12;path 0 3 11;path 0 4 10;path 1 3 9;path 1 4 8;path 1 5 7;"
          + "singer 7 6 5 4 3 2;singer 1 2 3 4 5 6;singer 2 4 6 0 1 3;singer 3 3 3 7 7 7;singer 4 5;singer 5 0 7;"
          + "knows 0 0;knows 1 0;knows 2 0;knows 2 1;knows 3 0;knows 3 2;knows 4 1;knows 5 2;"
          + "owns 5 0;owns 5 1;owns 4 2;owns 3 3;owns 2 4;owns 1 5;owns 0 6;owns 0 7;"
          + "sings hour+singer*3;fines far*2+acres;";

  private static final String[] SMALLER = {
    "",
    "field 3 1 2;",
    "field 3 1 2;field 4 2 3;",
    "field 3 1 2;singer 0;",
    "field 3 1 2;field 4 2 3;path 0 1 2;singer 1;singer 0 1;",
    "field 3 1 2;field 4 2 3;singer 0;singer 1;owns 0 1;owns 1 0;knows 0 1;sings 1;",
    Checks.LINE_OF_THREE,
    Checks.TWO_WITH_RULES,
  };

  public static void main(String[] args) {
    Checks.sentence("are a VALLEY, all anew: 0, or the FAULT");
    for (String text : SMALLER) {
      SongFields used = used();
      Checks.is("behind another: " + text, Checks.tell(used, text), 0);
      SongFields fresh = Checks.valley(text);
      for (int round = 0; round < 3; round++) {
        Checks.is(round + ": " + text, Twins.look(used), Twins.look(fresh));
        Checks.is(round + " and more: " + text, more(used), more(fresh));
        used.hours(7);
        fresh.hours(7);
      }
    }
    Checks.end("AnewTest");
  }

  /** All that a valley may leave behind: hours, purses, barrows, acts, what is heard, an image, refused calls. */
  private static SongFields used() {
    SongFields x = Checks.valley(LARGE);
    Checks.is("twice, so that it may lie behind the next but one", Checks.tell(x, LARGE), 0);
    x.image();
    x.hours(30);
    x.load(5, 7, 9);
    x.teach(5, 6);
    x.change(0, 0, 3);
    x.sell(0, 2);
    x.hear(3, 4, -1);
    x.hours(30);
    Checks.is("the large valley has fines", x.larks(1, 60, 2) > 0, true);
    Checks.is("and a round", x.round(0) > 0, true);
    return x;
  }

  /** What a look leaves out; the round ahead of what may use the same rows. */
  private static String more(SongFields x) {
    StringBuilder all = new StringBuilder();
    all.append(x.larks(3, 20, 0)).append(' ').append(x.larks(3, 20, 1)).append(' ').append(x.larks(3, 20, 2));
    for (int many = 1; many <= 4; many++) {
      all.append(' ').append(x.heirs(many));
    }
    for (int f = 0; f < x.count(0); f++) {
      all.append(" | field ").append(f).append(' ').append(x.allKnow(f));
      for (int g = 0; g < x.count(0); g++) {
        all.append(' ').append(x.round(f)).append(' ').append(x.common(f, g)).append(' ').append(x.far(f, g));
      }
    }
    for (int s = 0; s < x.count(2); s++) {
      all.append(" | singer ").append(s).append(' ').append(x.lost(s)).append(' ').append(x.trespasses(s, 9, 0));
      for (int f = 0; f < x.count(0); f++) {
        all.append(' ').append(x.learnt(s, f)).append(' ').append(x.needed(s, f, 9));
      }
    }
    return all.append(" | ").append(x.restore()).append(' ').append(x.undo()).toString();
  }
}
