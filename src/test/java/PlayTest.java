/** Promises 34 and 35: a game of two, and larks. */
public final class PlayTest {
  public static void main(String[] args) {
    games();
    wrongGames();
    larks();
    wrongLarks();
    Checks.end("PlayTest");
  }

  /** Two in fields 1 and 2 know tune 0, whose acres and fine are told; singer 2 owns it. */
  private static SongFields two(int acres, int fine) {
    return Checks.valley("field " + acres + " 1 1;field 1 2 2;field 1 3 3;singer 1;singer 2;singer 0;"
        + "knows 0 0;knows 1 0;owns 2 0;fines " + fine + "+hearers*9;path 0 1 1;path 1 2 1;");
  }

  private static void game(String what, SongFields x, int many, int first) {
    Checks.is(what + ": how many", x.game(0, 1, 0, 0), many);
    Checks.is(what + ": the first", x.game(0, 1, 0, 1), first);
  }

  private static void games() {
    game("both gain", two(9, 3), 1, 11);
    game("half of 9 is 4, all 9: one sings", two(9, 6), 2, 1);
    game("nobody gains", two(9, 12), 1, 0);
    game("both gain nothing by both", two(9, 4), 3, 1);
    game("alone nothing", two(9, 9), 3, 0);
    SongFields earth = two(9, 12);
    earth.load(1, 0, 1);
    game("earth counts", earth, 1, 1);
    Checks.is("turned", earth.game(1, 0, 0, 1), 10);
    Checks.is("no earth is used", earth.earth(1, 0), 1);
    SongFields own = two(9, 12);
    own.sell(0, 0);
    game("one's own", own, 1, 10);
    SongFields nobodys = two(9, 12);
    nobodys.sell(0, -1);
    game("nobody's", nobodys, 1, 11);
    SongFields there = two(9, 12);
    there.change(1, 0, 0);
    game("where one is", there, 1, 1);
    SongFields one = Checks.valley("field 1 1 1;singer 0;singer 0;");
    Checks.is("half of 1 is 0", one.game(0, 1, 0, 0), 3);
    Checks.is("the first", one.game(0, 1, 0, 1), 1);
    SongFields purse = Checks.valley("field 9 1 1;field 1 2 2;singer 1;singer 1;singer 0;knows 0 0;knows 1 0;owns 2 0;fines 4-purse;sings (singer=0)-1+field;");
    purse.hours(1);
    Checks.is("what was paid", purse.singer(1, 3), -4);
    Checks.is("the purse of now", purse.game(0, 1, 0, 0), 2);
  }

  private static void wrongGames() {
    SongFields x = two(9, 3);
    Checks.illegal("both are one", () -> x.game(0, 0, 0, 0));
    Checks.illegal("one doesn't know", () -> x.game(0, 1, 1, 0));
    Checks.illegal("the other doesn't", () -> x.game(0, 1, 2, 1));
    Checks.illegal("singer 2 doesn't", () -> x.game(0, 2, 1, 1));
    Checks.illegal("singer 2 doesn't", () -> x.game(2, 0, 1, 1));
    Checks.is("2 does", x.game(2, 0, 0, 0), 1);
    Checks.noSuch("no singer", () -> x.game(3, 0, 0, 0));
    Checks.noSuch("no other", () -> x.game(0, 3, 0, 0));
    Checks.noSuch("no field", () -> x.game(0, 0, 3, 0));
    Checks.noSuch("what ahead", () -> x.game(0, 0, 0, 2));
    Checks.noSuch("what -1", () -> x.game(0, 1, 0, -1));
  }

  private static void larks() {
    SongFields x = Checks.valley(Checks.LINE_OF_THREE);
    Checks.is("no hours", x.larks(5, 0, 0), 4);
    Checks.is("no trespass", x.larks(5, 0, 1), 0);
    Checks.is("no purse", x.larks(5, 0, 2), 0);
    // Apart and silent, so that one draw can be told: who is drawn learns what is drawn.
    SongFields apart = Checks.valley("field 1 1 1;field 1 2 2;field 1 3 3;singer 0;singer 1;sings singer+1;");
    int[] seeds = {0, 1, 5, 77, -1, -123456789, Integer.MIN_VALUE, Integer.MAX_VALUE};
    for (int i = 0; i < 300; i++) {
      int seed = i < seeds.length ? seeds[i] : i * 7654321;
      int one = seed * 1103515245 + 12345;
      int two = one * 1103515245 + 12345;
      int tune = (one >>> 16 & 0x7fff) % 3;
      int who = (two >>> 16 & 0x7fff) % 2;
      Checks.is("by seed " + seed, apart.larks(seed, 1, 0), tune == who ? 2 : 3);
    }
    // All are in one field: the lark's tune is known to all, and one sings it at once.
    SongFields all = Checks.valley("field 1 1 1;field 9 2 2;singer 0;singer 0;singer 1;owns 2 1;sings 1;fines 7;");
    Checks.is("without a lark nobody could", all.purse(2, 30), 0);
    Checks.is("all know all by then", all.larks(3, 30, 0), 6);
    Checks.is("the owner's purse", all.larks(3, 30, 2), 7 * all.larks(3, 30, 1));
    Checks.is("trespasses by two", all.larks(3, 30, 1) > 0, true);
    Checks.is("nothing changes", all.count(4), 0);
    all.teach(0, 1);
    all.hours(4);
    Checks.is("so far", all.count(4), 8);
    Checks.is("in these hours", all.larks(1, 2, 1), 4);
    Checks.is("from now on", all.larks(1, 2, 2), 7 * 12);
    Checks.is("60", all.larks(1, 60, 1), 120);
    // A lark sings where that singer is in its own hour; who is drawn there alone learns it.
    SongFields walks = Checks.valley("field 1 1 1;field 1 2 2;field 1 3 3;singer 0 1;singer 0 2;sings 2-singer;");
    for (int seed = 0; seed < 60; seed++) {
      int[] known = {1, 1};
      int s = seed;
      for (int h = 0; h < 2; h++) {
        s = s * 1103515245 + 12345;
        int tune = 1 << (s >>> 16 & 0x7fff) % 3;
        s = s * 1103515245 + 12345;
        int who = (s >>> 16 & 0x7fff) % 2;
        known[who] |= tune;
        known[1 - who] |= h == 0 ? tune : 0;
        // Then each sings its own rule's tune, if it knows it: in the first hour both hear.
        if (h == 0 && (known[0] >> 2 & 1) != 0) known[1] |= 4;
        if (h == 0 && (known[1] >> 1 & 1) != 0) known[0] |= 2;
      }
      Checks.is("two hours by " + seed, walks.larks(seed, 2, 0), Integer.bitCount(known[0]) + Integer.bitCount(known[1]));
    }
    SongFields one = Checks.valley("field 1 1 1;field 1 2 2;singer 0;");
    Checks.is("one alone learns all", one.larks(1, 60, 0), 2);
    SongFields second = Checks.valley("field 1 1 1;field 1 2 2;singer 0;singer 1;singer 0;knows 0 1;owns 1 1;sings 1;fines 1;");
    Checks.is("the second's purse", second.larks(1, 0, 2), 0);
    Checks.is("behind 5 hours", second.larks(1, 5, 2), 10);
    SongFields none = Checks.valley("field 1 1 1;");
    Checks.is("without singers", none.larks(1, 60, 0), 0);
    Checks.is("without singers", none.larks(1, 60, 1), 0);
    Checks.is("without singers", none.larks(1, 60, 2), 0);
    Checks.is("without fields", new SongFields().larks(1, 60, 2), 0);
    SongFields six = Checks.valley("field 1 1 1;field 1 2 2;" + "singer 0;".repeat(6));
    six.load(0, 0, 9);
    Checks.is("a barrow is no purse", six.larks(1, 0, 2), 0);
    Checks.is("six know one each", six.larks(1, 0, 0), 6);
  }

  private static void wrongLarks() {
    SongFields x = Checks.valley(Checks.LINE_OF_THREE);
    Checks.illegal("-1", () -> x.larks(1, -1, 0));
    Checks.illegal("61", () -> x.larks(1, 61, 2));
    Checks.noSuch("what ahead", () -> x.larks(1, 61, 3));
    Checks.noSuch("what -1", () -> x.larks(1, 1, -1));
  }
}
