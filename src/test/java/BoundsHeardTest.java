import java.util.Random;

/** The bounds of what is heard, of games, larks and images, sentence by sentence: ==== 4., and promises 30 to 37. */
public final class BoundsHeardTest {
  private static final String FIELD = "field 1 1 1;";

  public static void main(String[] args) {
    howMuchIsHeard();
    whichHour();
    bySomebody();
    noTune();
    otherwiseWithout();
    otherwiseFirstAndLast();
    anotherOneThanItIs();
    fromNowOn();
    listenTies();
    listenNone();
    againstChanges();
    forget();
    gameGains();
    gameHalves();
    gameFines();
    gameRests();
    gameWhere();
    larkHours();
    larkDraws();
    withoutFieldsOrSingers();
    againstTeaching();
    imageKeeps();
    imageKeepsNot();
    inPlaceOfAnother();
    restoreNone();
    Checks.end("BoundsHeardTest");
  }

  private static void howMuchIsHeard() {
    Checks.sentence("HEARD (at most 8)");
    SongFields x = Checks.valley(FIELD.repeat(2) + "singer 0;");
    for (int i = 1; i <= 8; i++) {
      Checks.is("heard", x.hear(0, 1, 0), i);
    }
    Checks.is("the ninth", x.hear(0, 1, 0), -1);
    Checks.is("eight", x.count(6), 8);
    Checks.is("refused", x.count(10), 1);
    // All eight count, the last as well.
    Checks.is("so", x.otherwise(2), 1);
    SongFields y = Checks.valley(FIELD.repeat(2) + "singer 0;");
    for (int i = 1; i <= 7; i++) {
      y.hear(0, 1, 0);
    }
    Checks.is("the eighth", y.hear(1, 1, 0), 8);
    Checks.is("not so", y.otherwise(2), 0);
    SongFields z = Checks.valley(FIELD.repeat(2) + "singer 0;");
    z.hear(1, 1, 0);
    for (int i = 2; i <= 8; i++) {
      z.hear(0, 1, 0);
    }
    Checks.is("the first counts", z.otherwise(2), 0);
  }

  private static void whichHour() {
    Checks.sentence("that in the k-th HOUR from now (1 to 30)");
    for (int k = 1; k <= 30; k++) {
      SongFields x = Checks.valley("field 1 1 1;field 1 2 2;singer 0;knows 0 1;sings hour=" + (k - 1) + ";");
      Checks.is("heard", x.hear(0, k, 1), 1);
      Checks.is("so in " + k, x.otherwise(2), 1);
      x.forget();
      if (k > 1) {
        x.hear(0, k - 1, 1);
        Checks.is("not one ahead of it", x.otherwise(2), 0);
        x.forget();
      }
      if (k < 30) {
        x.hear(0, k + 1, 1);
        Checks.is("not one behind it", x.otherwise(2), 0);
      }
    }
    SongFields x = Checks.valley(FIELD + "singer 0;");
    Checks.is("0", x.hear(0, 0, 0), -1);
    Checks.is("31", x.hear(0, 31, 0), -1);
    Checks.is("nothing is", x.count(6), 0);
    Checks.is("refused", x.count(10), 2);
  }

  private static void bySomebody() {
    Checks.sentence("a TUNE is sung by somebody who is in a told FIELD");
    SongFields x = Checks.valley("field 1 1 1;field 1 2 2;field 1 3 3;singer 0;singer 0;singer 2;knows 1 1;knows 2 0;sings singer;");
    // In field 0 are 0, who sings 0, and 1, who sings 1; in 2 is 2, who knows 2 and 0, and sings 2.
    boolean[][] due = {{true, true, false}, {false, false, false}, {false, false, true}};
    for (int f = 0; f < 3; f++) {
      for (int t = 0; t < 3; t++) {
        x.forget();
        x.hear(f, 1, t);
        Checks.is(t + " in " + f, x.otherwise(2), due[f][t] ? 1 : 0);
      }
    }
    x.forget();
    x.hear(0, 1, 0);
    x.hear(0, 1, 1);
    Checks.is("both in one field", x.otherwise(2), 1);
    x.hear(0, 1, 2);
    Checks.is("but no third", x.otherwise(2), 0);
  }

  private static void noTune() {
    Checks.sentence("or no TUNE is in it.");
    SongFields x = Checks.valley("field 1 1 1;field 1 2 2;field 1 3 3;singer 0;singer 1;sings 0;");
    int[] due = {0, 1, 1};
    for (int f = 0; f < 3; f++) {
      x.forget();
      Checks.is("heard", x.hear(f, 1, -1), 1);
      Checks.is("none in " + f, x.otherwise(2), due[f]);
    }
    x.hear(2, 1, 0);
    Checks.is("none and one can't be", x.otherwise(2), 0);
    Checks.is("by no step", x.otherwise(0), 0);
  }

  private static void otherwiseWithout() {
    Checks.sentence("all HEARD would be so: how many; the first (100 by the SINGER, 10 by the place, and the FIELD); whether it is so without (1).");
    SongFields x = new SongFields();
    Checks.is("no fields: none", x.otherwise(0), 0);
    Checks.is("no first", x.otherwise(1), -1);
    Checks.is("so without", x.otherwise(2), 1);
    // Nothing is heard: every step is one.
    for (int fields = 1; fields <= 8; fields++) {
      for (int singers = 0; singers <= 6; singers += 3) {
        SongFields y = Checks.valley(FIELD.repeat(fields) + "singer 0 0 0 0 0 0;".repeat(singers));
        Checks.is("how many", y.otherwise(0), singers * 6 * (fields - 1));
        Checks.is("the first", y.otherwise(1), singers > 0 && fields > 1 ? 1 : -1);
        Checks.is("so without", y.otherwise(2), 1);
      }
    }
  }

  private static void otherwiseFirstAndLast() {
    Checks.sentence("the first (100 by the SINGER, 10 by the place, and the FIELD)");
    // Only the last singer knows tune 7 there; in the 6th hour it would be in 7.
    SongFields x = Checks.valley(FIELD.repeat(8) + "singer 0;".repeat(5) + "singer 0 0 0 0 0 0;knows 5 7;");
    x.hear(7, 6, 7);
    Checks.is("one", x.otherwise(0), 1);
    Checks.is("singer 5, place 5, field 7", x.otherwise(1), 557);
    Checks.is("not without", x.otherwise(2), 0);
    x.forget();
    x.hear(7, 1, 7);
    Checks.is("singer 5, place 0, field 7", x.otherwise(1), 507);
    x.hear(6, 1, 7);
    Checks.is("none", x.otherwise(0), 0);
    Checks.is("no first", x.otherwise(1), -1);
    // Of several the first in order: singer, then place, then field.
    SongFields y = Checks.valley(FIELD.repeat(3) + "singer 0 0;singer 0 0;knows 0 1;knows 0 2;knows 1 1;knows 1 2;sings 0;");
    y.hear(1, 2, 0);
    Checks.is("two singers' second places", y.otherwise(0), 2);
    Checks.is("the first singer's", y.otherwise(1), 11);
    y.forget();
    y.hear(0, 2, 0);
    Checks.is("so by each", y.otherwise(0), 8);
    Checks.is("the first field that is another one", y.otherwise(1), 1);
  }

  private static void anotherOneThanItIs() {
    Checks.sentence("and FIELDS (another one than it is)");
    SongFields x = Checks.valley(FIELD.repeat(3) + "singer 1;");
    Checks.is("two others", x.otherwise(0), 2);
    Checks.is("the first is 0", x.otherwise(1), 0);
    x.change(0, 0, 0);
    Checks.is("two others", x.otherwise(0), 2);
    Checks.is("the first is 1", x.otherwise(1), 1);
    x.hear(0, 1, -1);
    x.change(0, 0, 1);
    Checks.is("where it is counts as it is now", x.otherwise(0), 2);
    Checks.is("so without", x.otherwise(2), 1);
    Checks.is("one field has no other", Checks.valley(FIELD + "singer 0 0;").otherwise(0), 0);
  }

  private static void fromNowOn() {
    Checks.sentence("by one of which, were that so from now on");
    // A place that comes again: both its hours are otherwise.
    SongFields x = Checks.valley(FIELD.repeat(2) + "singer 0 0;knows 0 1;");
    x.hear(1, 1, 1);
    x.hear(1, 3, 1);
    x.hear(0, 2, 0);
    Checks.is("one step", x.otherwise(0), 1);
    Checks.is("the first place", x.otherwise(1), 1);
    x.hear(0, 3, 0);
    Checks.is("not the first time only", x.otherwise(0), 0);
    // What was sung ahead of now stays: singer 1 knows what it heard.
    SongFields y = Checks.valley(FIELD.repeat(2) + "singer 0;singer 0;knows 0 1;sings 1;");
    y.hours(1);
    y.hear(1, 1, 1);
    Checks.is("by either", y.otherwise(0), 2);
    y.undo();
    Checks.is("by either from hour 0: the second has heard it by then only where it is", y.otherwise(0), 1);
    Checks.is("by the first", y.otherwise(1), 1);
    // What is heard is asked for from the now in which it is asked.
    SongFields z = Checks.valley(FIELD.repeat(2) + "singer 0 1;knows 0 1;");
    z.hear(0, 1, 0);
    Checks.is("so in hour 0", z.otherwise(2), 1);
    z.hours(1);
    Checks.is("not in hour 1", z.otherwise(2), 0);
    z.hours(1);
    Checks.is("so in hour 2", z.otherwise(2), 1);
  }

  private static void listenTies() {
    Checks.sentence("is by these most unlike (none is one; of like ones the least FIELD): how many unlike ones");
    SongFields x = Checks.valley(FIELD.repeat(3) + "singer 2;knows 0 1;knows 0 0;");
    // By 0 or by 1: in 0 it is 0 or none, in 1 none or 1, in 2 none.
    Checks.is("of like ones the least", x.listen(0), 0);
    Checks.is("two", x.listen(1), 2);
    x.hear(0, 1, -1);
    Checks.is("one step is left: all are alike", x.listen(0), 0);
    Checks.is("one", x.listen(1), 1);
    // Both are in 3, where 0 sings 3 and 1 sings 0. By one of them elsewhere there is 3, 0 or none in 0 to 2, in 3 the other's.
    SongFields y = Checks.valley("field 1 1 1;field 1 2 2;field 1 3 3;field 1 4 4;singer 3;singer 3;knows 1 0;sings (singer=0)*3;");
    Checks.is("of like ones the least", y.listen(0), 0);
    Checks.is("3, 0 and none", y.listen(1), 3);
    // Of two tunes in a field the least number counts.
    SongFields z = Checks.valley("field 1 1 1;field 1 2 2;field 1 3 3;singer 0;singer 1;knows 1 2;sings singer*2;");
    // 0 sings 0 wherever it is, 1 sings 2: 0 to 1, 0 to 2, 1 to 0, 1 to 2.
    // In 0: none, none, 0, 0; in 1: 0, 2, none, none; in 2: none, 0, none, 2.
    Checks.is("field 1", z.listen(0), 1);
    Checks.is("0, 2 and none", z.listen(1), 3);
    Checks.sentence("the FIELD of which the least number of a TUNE that is sung in it in the next HOUR");
    // The second place is another one's hour: by it nothing is unlike in the next.
    SongFields next = Checks.valley(FIELD.repeat(3) + "singer 0 0;knows 0 1;knows 0 2;");
    next.hear(0, 1, 0);
    Checks.is("by the second place alone", next.otherwise(0), 2);
    Checks.is("all alike", next.listen(1), 1);
    next.hours(1);
    next.forget();
    next.hear(0, 2, 0);
    Checks.is("that is the next now", next.otherwise(0), 2);
    Checks.is("unlike in 0? none in both", next.listen(0), 1);
    Checks.is("1 or none", next.listen(1), 2);
  }

  private static void listenNone() {
    Checks.sentence("none without any.");
    SongFields x = Checks.valley(FIELD.repeat(2) + "singer 0;");
    x.hear(0, 1, 0);
    x.hear(1, 1, 0);
    Checks.is("no step", x.otherwise(0), 0);
    Checks.is("nowhere", x.listen(0), -1);
    Checks.is("none", x.listen(1), 0);
    Checks.is("no fields", new SongFields().listen(0), -1);
    Checks.is("no fields", new SongFields().listen(1), 0);
    SongFields nobody = Checks.valley(FIELD.repeat(2));
    Checks.is("nobody", nobody.listen(0), -1);
    Checks.is("nobody", nobody.listen(1), 0);
    // That it is so without is no step.
    SongFields so = Checks.valley(FIELD + "singer 0;");
    so.hear(0, 1, 0);
    Checks.is("so without", so.otherwise(2), 1);
    Checks.is("no other field", so.listen(0), -1);
    Checks.is("none", so.listen(1), 0);
  }

  /** The field of a singer in the k-th hour from now. */
  private static int place(SongFields x, int singer, int k) {
    return x.way(singer, (x.count(3) + k - 1) % x.singer(singer, 0));
  }

  /** Whether it comes so, asked by way and sung alone. */
  private static boolean isSo(SongFields x, int[][] heard) {
    for (int[] h : heard) {
      boolean sung = false;
      boolean any = false;
      for (int s = 0; s < x.count(2); s++) {
        if (place(x, s, h[1]) == h[0]) {
          int tune = x.sung(s, h[1]);
          any |= tune != -1;
          sung |= tune == h[2];
        }
      }
      if (h[2] == -1 ? any : !sung) {
        return false;
      }
    }
    return true;
  }

  private static int leastIn(SongFields x, int field) {
    int least = -1;
    for (int s = 0; s < x.count(2); s++) {
      int tune = x.sung(s, 1);
      if (place(x, s, 1) == field && tune != -1 && (least == -1 || tune < least)) {
        least = tune;
      }
    }
    return least;
  }

  /** OTHERWISE and LISTEN against ways that are changed one by one, and undone. */
  private static void againstChanges() {
    Checks.sentence("OTHERWISE: SINGERS, places of their WAYS, and FIELDS (another one than it is)");
    Random random = new Random(31);
    for (int run = 0; run < 150; run++) {
      String text = "field 3 1 2;field 4 2 3;field 5 3 4;path 0 1 2;singer 0 " + random.nextInt(3) + ";singer " + random.nextInt(3)
          + ";" + (random.nextBoolean() ? "knows 0 1;knows 0 2;" : "knows 0 2;") + "owns 0 2;"
          + new String[] {"", "sings hour;", "sings singer+hour;", "sings field+1;", "sings known;"}[random.nextInt(5)];
      SongFields x = Checks.valley(text);
      SongFields y = Checks.valley(text);
      if (random.nextBoolean()) {
        x.hours(3);
        y.hours(3);
      }
      int[][] heard = new int[random.nextInt(3)][];
      for (int i = 0; i < heard.length; i++) {
        heard[i] = new int[] {random.nextInt(3), 1 + random.nextInt(4), random.nextInt(4) - 1};
        x.hear(heard[i][0], heard[i][1], heard[i][2]);
      }
      compareSteps(x, y, heard, text);
    }
  }

  private static void compareSteps(SongFields x, SongFields y, int[][] heard, String text) {
    int many = 0;
    int first = -1;
    int[] unlike = new int[3];
    int without = isSo(y, heard) ? 1 : 0;
    for (int s = 0; s < 2; s++) {
      for (int i = 0; i < y.singer(s, 0); i++) {
        for (int f = 0; f < 3; f++) {
          if (y.way(s, i) != f) {
            y.change(s, i, f);
            if (isSo(y, heard)) {
              first = many == 0 ? 100 * s + 10 * i + f : first;
              many++;
              for (int g = 0; g < 3; g++) {
                unlike[g] |= 1 << leastIn(y, g) + 1;
              }
            }
            y.undo();
          }
        }
      }
    }
    int best = 0;
    for (int g = 1; g < 3; g++) {
      best = Integer.bitCount(unlike[g]) > Integer.bitCount(unlike[best]) ? g : best;
    }
    Checks.is("how many of " + text, x.otherwise(0), many);
    Checks.is("the first of " + text, x.otherwise(1), first);
    Checks.is("without of " + text, x.otherwise(2), without);
    Checks.is("where of " + text, x.listen(0), many == 0 ? -1 : best);
    Checks.is("unlike of " + text, x.listen(1), Integer.bitCount(unlike[best]));
  }

  private static void forget() {
    Checks.sentence("`void forget()`: All that is HEARD is forgotten.");
    for (int many = 0; many <= 8; many += 4) {
      SongFields x = Checks.valley(FIELD.repeat(2) + "singer 0;");
      x.hours(2);
      x.hours(0);
      x.hear(0, 0, 0);
      for (int i = 0; i < many; i++) {
        x.hear(1, 1, 0);
      }
      x.forget();
      Checks.is("nothing", x.count(6), 0);
      Checks.is("so without", x.otherwise(2), 1);
      Checks.is("acts stay", x.count(5), 1);
      Checks.is("status stays", Twins.status(x), "0 1 1");
      for (int i = 1; i <= 8; i++) {
        Checks.is("room again", x.hear(0, 1, 0), i);
      }
      Checks.is("and full again", x.hear(0, 1, 0), -1);
      Checks.is("what was forgotten doesn't count", x.otherwise(2), 1);
    }
  }

  /** Two in fields 1 and 2, and the owner in 0, whose tune both know; all hear one another. */
  private static SongFields two(int acres, String fine) {
    return Checks.valley("field " + acres + " 1 1;field 1 2 2;field 1 3 3;singer 1;singer 2;singer 0;"
        + "knows 0 0;knows 1 0;owns 2 0;path 0 1 1;path 1 2 1;path 0 2 1;fines " + fine + ";");
  }

  private static void rests(String what, SongFields x, int many, int first) {
    Checks.is(what + ": how many", x.game(0, 1, 0, 0), many);
    Checks.is(what + ": the first", x.game(0, 1, 0, 1), first);
  }

  private static void gameGains() {
    Checks.sentence("who SINGS alone gains the ACRES of its FIELD, less what one would pay for that now");
    // 20 acres, half of them 10: at what is paid, at one less and at one more.
    rests("9 is less than half", two(20, "9"), 1, 11);
    rests("10 is half", two(20, "10"), 3, 1);
    rests("11 is more than half", two(20, "11"), 2, 1);
    rests("19 is less than all", two(20, "19"), 2, 1);
    rests("20 is all", two(20, "20"), 3, 0);
    rests("21 is more than all", two(20, "21"), 1, 0);
  }

  private static void gameHalves() {
    Checks.sentence("if both SING, each gains half of the ACRES, cut down, less that");
    rests("half of 21 is 10", two(21, "10"), 3, 1);
    rests("half of 21 is more than 9", two(21, "9"), 1, 11);
    rests("half of 1 is 0", two(1, "0"), 3, 1);
    rests("half of 2 is 1", two(2, "0"), 1, 11);
    rests("half of 99 is 49", two(99, "49"), 3, 1);
    rests("half of 99 is more than 48", two(99, "48"), 1, 11);
  }

  private static void gameFines() {
    Checks.sentence("('hearers' being 0; nothing, if it is no TRESPASS: EARTH counts)");
    rests("nobody hears", two(20, "9+hearers*50"), 1, 11);
    rests("kept to 0", two(20, "0-50"), 1, 11);
    rests("kept to 99", two(99, "100"), 3, 0);
    rests("kept to 99", two(98, "99"), 1, 0);
    SongFields none = two(20, "99");
    rests("neither", none, 1, 0);
    none.load(0, 0, 1);
    rests("earth of the first", none, 1, 10);
    none.load(1, 0, 1);
    rests("earth of both", none, 1, 11);
    Checks.is("it is not used", none.earth(0, 0) + none.earth(1, 0), 2);
    none.undo();
    none.undo();
    none.load(0, 1, 9);
    rests("other earth", none, 1, 0);
    none.sell(0, 1);
    rests("the other one's own", none, 1, 1);
    none.sell(0, -1);
    rests("nobody's", none, 1, 11);
    // The rule's purse is one's own, now: behind an hour 0 has paid 9, and would pay 18, but 1 would pay 9.
    SongFields purse = Checks.valley("field 20 1 1;field 1 2 2;field 1 3 3;singer 1;singer 2;singer 0;"
        + "knows 0 0;knows 1 0;owns 2 0;sings (1-(singer=0))*field;fines 9-purse;");
    rests("no purse", purse, 1, 11);
    purse.hours(1);
    Checks.is("paid", purse.singer(0, 3), -9);
    rests("a purse below 0", purse, 1, 1);
    Checks.is("nothing is paid by it", purse.singer(0, 3), -9);
  }

  private static void gameRests() {
    Checks.sentence("A couple RESTS, if neither gains more by the other choice: how many; the first (10 by the first one's, and the other one's).");
    SongFields x = two(20, "11");
    x.load(0, 0, 1);
    rests("the first sings, whatever the other does", x, 1, 10);
    Checks.is("turned", x.game(1, 0, 0, 1), 1);
    Checks.is("turned", x.game(1, 0, 0, 0), 1);
    x.undo();
    x.load(1, 0, 1);
    rests("the other one", x, 1, 1);
    Checks.is("with the owner", x.game(0, 2, 0, 1), 1);
    Checks.is("of 3", two(20, "20").game(1, 0, 0, 0), 3);
  }

  private static void gameWhere() {
    Checks.sentence("A GAME of two SINGERS over a TUNE that both KNOW, where each is in this HOUR");
    SongFields x = Checks.valley("field 20 1 1;field 1 2 2;singer 1 0;singer 1;singer 1;knows 0 0;knows 1 0;owns 2 0;fines 30;");
    rests("both pay", x, 1, 0);
    x.hours(1);
    rests("the first is there now", x, 1, 10);
    Checks.sentence("both are one, one doesn't KNOW it.");
    SongFields know = Checks.valley("field 20 1 1;field 1 2 2;singer 0;singer 0;singer 1;");
    Checks.illegal("one", () -> know.game(1, 1, 0, 0));
    Checks.illegal("the other doesn't", () -> know.game(0, 2, 0, 0));
    Checks.illegal("the first doesn't", () -> know.game(2, 0, 0, 0));
    Checks.illegal("neither", () -> know.game(0, 1, 1, 0));
    Checks.is("both do", know.game(0, 1, 0, 0), 1);
    know.teach(2, 0);
    Checks.is("taught", know.game(0, 2, 0, 0), 1);
    Checks.noSuch("what 2", () -> know.game(0, 1, 0, 2));
    Checks.noSuch("what ahead", () -> know.game(0, 0, 1, -1));
  }

  private static void larkHours() {
    Checks.sentence("LARKS by a seed: n HOURS (0 to 60) from now on");
    SongFields x = Checks.valley("field 5 1 2;field 9 3 4;singer 0;singer 1;knows 0 1;owns 1 1;sings 1;fines 1;");
    x.hours(3);
    for (int n = 0; n <= 60; n++) {
      Checks.is("trespasses in " + n, x.larks(1, n, 1), n);
      Checks.is("the greatest purse", x.larks(1, n, 2), 3 + n);
    }
    Checks.is("known in none", x.larks(1, 0, 0), 3);
    Checks.illegal("-1", () -> x.larks(1, -1, 0));
    Checks.illegal("61", () -> x.larks(1, 61, 0));
    Checks.noSuch("what 3", () -> x.larks(1, 0, 3));
    Checks.noSuch("what -1", () -> x.larks(1, 0, -1));
    Checks.noSuch("what ahead", () -> x.larks(1, 61, 3));
    Checks.is("the hour stays", x.count(3), 3);
    // The greatest of all purses: the last one's.
    SongFields last = Checks.valley("field 5 1 2;field 9 3 4;singer 0;singer 1;singer 1;knows 0 1;owns 2 1;sings 1;fines 1;");
    Checks.is("the last one's", last.larks(1, 60, 2), 60);
    Checks.is("purses are kept", kept().larks(1, 60, 2), 9999);
  }

  private static SongFields kept() {
    SongFields x = Checks.valley("field 5 1 2;field 9 3 4;singer 0;singer 1;knows 0 1;owns 1 1;sings 1;fines 99;");
    x.hours(30);
    x.hours(30);
    return x;
  }

  private static void larkDraws() {
    Checks.sentence("A seed becomes itself times 1103515245 and 12345 (an int that wraps); a DRAW of n is its bits 16 to 30 MOD n then.");
    // All are apart and silent: who is drawn learns what is drawn, so the last draws are told by 0 or 1 more.
    int[] seeds = {0, 1, -1, 2, 65535, 65536, -65536, Integer.MAX_VALUE, Integer.MIN_VALUE, 1103515245, -1103515245};
    for (int fields = 1; fields <= 8; fields++) {
      int singers = Math.min(6, fields);
      StringBuilder all = new StringBuilder(FIELD.repeat(fields));
      for (int s = 0; s < singers; s++) {
        all.append("singer ").append(s).append(';');
      }
      SongFields x = Checks.valley(all + "sings field+1;");
      for (int seed : seeds) {
        int[] known = new int[singers];
        for (int s = 0; s < singers; s++) {
          known[s] = 1 << s;
        }
        int drawn = seed;
        for (int n = 1; n <= 4; n++) {
          drawn = drawn * 1103515245 + 12345;
          int tune = (drawn >>> 16 & 0x7fff) % fields;
          drawn = drawn * 1103515245 + 12345;
          int who = (drawn >>> 16 & 0x7fff) % singers;
          known[who] |= 1 << tune;
          int sum = 0;
          for (int k : known) {
            sum += Integer.bitCount(k);
          }
          Checks.is("by seed " + seed + " in " + n + " of " + fields, x.larks(seed, n, 0), sum);
        }
      }
    }
  }

  private static void withoutFieldsOrSingers() {
    Checks.sentence("(Without FIELDS, or without SINGERS, nothing is drawn.)");
    Checks.is("one singer is drawn", Checks.valley(FIELD.repeat(8) + "singer 0;").larks(7, 60, 0), 8);
    Checks.is("one field is drawn", Checks.valley(FIELD + "singer 0;".repeat(6)).larks(7, 60, 0), 6);
    int[] hours = {0, 1, 60};
    for (int n : hours) {
      for (int what = 0; what <= 2; what++) {
        Checks.is("without fields", new SongFields().larks(7, n, what), 0);
        Checks.is("without singers", Checks.valley(FIELD.repeat(8)).larks(7, n, what), 0);
      }
    }
  }

  /** A lark is a teaching of all who hear it, ahead of an hour. */
  private static void againstTeaching() {
    Checks.sentence("a lark SINGS that FIELD's TUNE where that SINGER is in this HOUR: all who hear it (that one, too) KNOW it");
    String text = "field 3 1 2;field 4 2 3;field 5 3 4;field 6 4 5;path 0 1 2;path 1 2 3;singer 0 3;singer 1 1 2;singer 2;singer 3;"
        + "owns 3 0;owns 1 2;owns 0 3;";
    String[] rules = {"", "sings hour;", "sings known+singer;fines 2+hearers;", "sings purse+hour;fines far;"};
    for (String rule : rules) {
      for (int seed = -40; seed <= 40; seed += 7) {
        SongFields x = Checks.valley(text + rule);
        SongFields y = Checks.valley(text + rule);
        x.hours(2);
        y.hours(2);
        int trespasses = y.count(4);
        int drawn = seed;
        for (int n = 0; n <= 12; n++) {
          int known = 0;
          int most = y.singer(0, 3);
          for (int s = 0; s < 4; s++) {
            known += Integer.bitCount(y.singer(s, 2));
            most = Math.max(most, y.singer(s, 3));
          }
          Checks.is("known", x.larks(seed, n, 0), known);
          Checks.is("trespasses", x.larks(seed, n, 1), y.count(4) - trespasses);
          Checks.is("purse", x.larks(seed, n, 2), most);
          drawn = drawn * 1103515245 + 12345;
          int tune = (drawn >>> 16 & 0x7fff) % 4;
          drawn = drawn * 1103515245 + 12345;
          letLark(y, tune, (drawn >>> 16 & 0x7fff) % 4);
          y.hours(1);
        }
      }
    }
  }

  private static void letLark(SongFields y, int tune, int who) {
    int at = y.singer(who, 1);
    int near = y.field(at, 5) | 1 << at;
    for (int s = 0; s < 4; s++) {
      if ((near >> y.singer(s, 1) & 1) != 0) {
        y.teach(s, tune);
      }
    }
  }

  /** Three acts, one heard, one of each kind refused, and an image of that. */
  private static SongFields imaged() {
    SongFields x = Checks.valley(Checks.TWO_WITH_RULES);
    x.load(0, 1, 2);
    x.hours(3);
    x.sell(0, 0);
    x.hear(1, 2, 0);
    x.hours(0);
    x.hear(0, 0, 0);
    Checks.tell(x, "@");
    x.image();
    return x;
  }

  private static void imageKeeps() {
    Checks.sentence("AN IMAGE keeps all that HOURS and ACTS change, ACTS that are kept, what is HEARD, STATUS.");
    String look = Twins.look(imaged());
    Twins.Call[] after = {
      y -> y.hours(30), y -> y.teach(1, 0) ? 1 : 0, y -> y.load(0, 0, 9), y -> y.change(0, 0, 1), y -> y.sell(1, 0) ? 1 : 0,
      y -> y.undo(), y -> y.hear(0, 1, 0), y -> y.hours(0), y -> y.hear(0, 0, 0), y -> Checks.tell(y, "@"),
      y -> { y.forget(); return 0; }
    };
    SongFields all = imaged();
    for (Twins.Call call : after) {
      SongFields one = imaged();
      call.on(one);
      call.on(all);
      Checks.is("restored", one.restore(), true);
      Checks.is("all", Twins.look(one), look);
      Checks.is("status", Twins.status(one), "1 1 1");
    }
    Checks.is("restored from all", all.restore(), true);
    Checks.is("all", Twins.look(all), look);
    Checks.is("status", Twins.status(all), "1 1 1");
    Checks.is("its acts can be undone", all.undo(), 2);
    Checks.is("nobody's", all.field(0, 2), -1);
    Checks.is("and so on", all.undo(), 1);
    Checks.is("hour 0", all.count(3), 0);
    // What is heard is as it was in each of its parts: field, hour, tune.
    SongFields heard = Checks.valley("field 1 1 1;field 1 2 2;singer 0 1;knows 0 1;");
    int[][] others = {{1, 1, 0}, {0, 2, 0}, {0, 1, 1}, {0, 1, -1}};
    heard.hear(0, 1, 0);
    heard.image();
    for (int[] other : others) {
      heard.forget();
      heard.hear(other[0], other[1], other[2]);
      Checks.is("not so", heard.otherwise(2), 0);
      heard.restore();
      Checks.is("so again", heard.otherwise(2), 1);
    }
    for (int[] other : others) {
      heard.forget();
      heard.hear(other[0], other[1], other[2]);
      heard.image();
      heard.forget();
      heard.hear(0, 1, 0);
      Checks.is("so", heard.otherwise(2), 1);
      heard.restore();
      Checks.is("not so again", heard.otherwise(2), 0);
    }
    // All forty, though others took their slots since.
    int[] many = {39, 40, 41};
    for (int m : many) {
      SongFields y = Checks.valley(Checks.LINE_OF_THREE);
      for (int i = 0; i < m; i++) {
        y.hours(1);
      }
      y.image();
      for (int i = 0; i < 40; i++) {
        y.hours(2);
      }
      y.restore();
      Checks.is("acts", y.count(5), Math.min(40, m));
      for (int i = 1; i <= Math.min(40, m); i++) {
        y.undo();
        Checks.is("hour", y.count(3), m - i);
      }
      Checks.is("no more", y.undo(), -1);
    }
  }

  private static void imageKeepsNot() {
    Checks.sentence("`void image()`: AN IMAGE is kept, in place of another one.");
    // The tape and the fault's place are no part of it.
    SongFields x = Checks.valley(FIELD);
    x.feed(0x20202020, 0, 0, 0, 0);
    x.image();
    x.feed(0, 0, 0, 0, 0);
    x.restore();
    Checks.is("the tape stays", x.count(7), 40);
    Checks.is("a byte 0", x.valley(5), 1);
    Checks.is("its place", x.fault(), 4);
    x.restore();
    Checks.is("the place stays", x.fault(), 4);
    Checks.is("the tape is empty", x.count(7), 0);
    Checks.is("refused texts are its own", x.count(8), 0);
    Checks.is("an image is no act", x.count(5), 0);
  }

  private static void inPlaceOfAnother() {
    Checks.sentence("AN IMAGE is kept, in place of another one.");
    SongFields x = Checks.valley(FIELD + "singer 0;");
    for (int i = 1; i <= 5; i++) {
      x.hours(1);
      x.image();
    }
    x.hours(20);
    Checks.is("the latest", x.restore(), true);
    Checks.is("hour 5", x.count(3), 5);
    x.hours(7);
    Checks.is("again", x.restore(), true);
    Checks.is("hour 5", x.count(3), 5);
    x.undo();
    x.undo();
    x.image();
    x.hours(9);
    x.restore();
    Checks.is("hour 3", x.count(3), 3);
    Checks.is("acts", x.count(5), 3);
  }

  private static void restoreNone() {
    Checks.sentence("It is as the IMAGE again: true. False: there is none.");
    SongFields x = new SongFields();
    Checks.is("none", x.restore(), false);
    x.image();
    Checks.is("one", x.restore(), true);
    Checks.is("still", x.restore(), true);
    Checks.tell(x, "@");
    Checks.is("behind a fault, too", x.restore(), true);
    Checks.illegal("no text", () -> x.valley(1));
    Checks.is("still", x.restore(), true);
    Checks.tell(x, "");
    Checks.is("gone", x.restore(), false);
    Checks.is("gone", x.restore(), false);
    Checks.is("none is refused by it", Twins.status(x), "0 0 0");
  }
}
