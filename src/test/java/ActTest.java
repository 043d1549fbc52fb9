/** Promises 11 to 16, 36 and 37: acts, what is undone, images. */
public final class ActTest {
  public static void main(String[] args) {
    hours();
    songs();
    fines();
    finesFromElsewhere();
    teaching();
    loading();
    changing();
    selling();
    undoing();
    fortyActs();
    images();
    Checks.end("ActTest");
  }

  private static void hours() {
    SongFields x = Checks.valley(Checks.LINE_OF_THREE);
    Checks.is("30", x.hours(30), 30);
    Checks.is("1", x.hours(1), 31);
    int[] wrong = {0, -1, 31, Integer.MAX_VALUE, Integer.MIN_VALUE};
    for (int many : wrong) {
      Checks.is("hours " + many, x.hours(many), -1);
    }
    Checks.is("refused", x.count(9), wrong.length);
    Checks.is("acts", x.count(5), 2);
    Checks.is("the hour", x.count(3), 31);
    SongFields y = new SongFields();
    for (int i = 1; i <= 333; i++) {
      y.hours(30);
    }
    Checks.is("9990", y.count(3), 9990);
    Checks.is("10000 is too much", y.hours(10), -1);
    Checks.is("9999 is not", y.hours(9), 9999);
    Checks.is("no more", y.hours(1), -1);
    Checks.is("refused", y.count(9), 2);
  }

  private static void songs() {
    // 0 sings 1 in field 0, from where 1, who is beside it, hears it, but not 2, who is farther.
    SongFields x = Checks.valley(
        "field 1 1 1;field 1 2 2;field 1 3 3;path 0 1 1;path 1 2 1;singer 0;singer 1;singer 2;knows 0 1;knows 2 0;");
    x.hours(1);
    Checks.is("0 hears 1", x.singer(0, 2), 3);
    Checks.is("1 hears both", x.singer(1, 2), 7);
    Checks.is("2 hears 1", x.singer(2, 2), 7);
    // Who is behind in order may sing in this hour what was just heard; who is ahead may not.
    SongFields y = Checks.valley("field 1 1 1;field 1 2 2;singer 0;singer 0;knows 0 1;sings 1;");
    y.hours(1);
    Checks.is("known at once", y.singer(1, 2), 3);
    Checks.is("it was sung by both", Checks.valley("field 1 1 1;field 1 2 2;singer 0;singer 0;knows 0 1;sings 1;").sung(1, 1), 1);
    Checks.is("not by the one ahead", Checks.valley("field 1 1 1;field 1 2 2;singer 0;singer 0;knows 1 1;sings 1;").sung(0, 1), -1);
    Checks.is("but later", Checks.valley("field 1 1 1;field 1 2 2;singer 0;singer 0;knows 1 1;sings 1;").sung(0, 2), 1);
    // Being in one field without a path hears too; other fields without a path don't.
    SongFields z = Checks.valley("field 1 1 1;field 1 2 2;singer 0;singer 1;knows 0 1;");
    z.hours(5);
    Checks.is("too far", z.singer(1, 2), 2);
  }

  private static void fines() {
    SongFields x = Checks.valley(Checks.TWO_WITH_RULES);
    x.hours(1);
    Checks.is("pays 13", x.singer(0, 3), -13);
    Checks.is("has 13", x.singer(1, 3), 13);
    Checks.is("a trespass", x.count(4), 1);
    // Without FINES: how far, 99 without a way, 99 if farther.
    String rule = "singer 0;singer 1;knows 0 1;owns 1 1;sings field+1;";
    SongFields y = Checks.valley("field 5 1 2;field 9 3 4;path 0 1 6;" + rule);
    y.hours(1);
    Checks.is("far", y.singer(0, 3), -6);
    SongFields z = Checks.valley("field 5 1 2;field 9 3 4;" + rule);
    z.hours(1);
    Checks.is("no way", z.singer(0, 3), -99);
    SongFields long6 = Checks.valley(
        "field 1 1 1;".repeat(7) + "path 0 1 20;path 1 2 20;path 2 3 20;path 3 4 20;path 4 5 20;path 5 6 20;"
            + "singer 0;singer 6;knows 0 6;owns 1 6;sings 6;");
    long6.hours(1);
    Checks.is("120 steps", long6.far(0, 6), 120);
    Checks.is("are 99", long6.singer(0, 3), -99);
    SongFields value = Checks.valley("field 5 1 2;field 9 3 4;" + rule + "fines far-50;");
    value.hours(1);
    Checks.is("no way in a rule", value.singer(0, 3), -49);
    // Kept to 0 to 99.
    SongFields below = Checks.valley("field 5 1 2;field 9 3 4;" + rule + "fines 0-5;");
    below.hours(1);
    Checks.is("below 0", below.singer(0, 3), 0);
    Checks.is("still a trespass", below.count(4), 1);
    SongFields above = Checks.valley("field 5 1 2;field 9 3 4;" + rule + "fines 100;");
    above.hours(1);
    Checks.is("above 99", above.singer(0, 3), -99);
    // Each value of FINES.
    String values = "far*1+acres*3+notes*5+hearers*7";
    SongFields all = Checks.valley(
        "field 5 1 2;field 9 3 4 5;path 0 1 6;singer 0;singer 1;singer 0;knows 0 1;owns 1 1;sings 1;fines " + values + ";");
    Checks.is("values", all.purse(0, 1), -(6 + 27 + 15 + 14));
    // Singer 2 hears it ahead of its turn, and sings it as well.
    Checks.is("both pay", all.purse(1, 1), 2 * (6 + 27 + 15 + 14));
    SongFields purse = Checks.valley("field 5 1 2;field 9 3 4;" + rule + "fines 3-purse;");
    Checks.is("one hour", purse.purse(0, 1), -3);
    Checks.is("two hours", purse.purse(0, 2), -9);
    Checks.is("three hours", purse.purse(0, 3), -21);
    // Purses are kept to -9999 to 9999.
    SongFields kept = Checks.valley("field 5 1 2;field 9 3 4;" + rule + "fines 99;");
    kept.hours(30);
    kept.hours(30);
    kept.hours(30);
    kept.hours(11);
    Checks.is("101 times 99", kept.singer(0, 3), -9999);
    kept.hours(1);
    Checks.is("no less", kept.singer(0, 3), -9999);
    Checks.is("no more", kept.singer(1, 3), 9999);
    Checks.is("but trespasses", kept.count(4), 102);
    // Earth is used up ahead of anything, even where there is no need.
    SongFields earth = Checks.valley("field 5 1 2;field 9 3 4;singer 0;knows 0 1;sings 1;");
    earth.load(0, 1, 3);
    earth.load(0, 0, 3);
    earth.hours(2);
    Checks.is("1 left", earth.earth(0, 1), 1);
    earth.hours(2);
    Checks.is("none left", earth.earth(0, 1), 0);
    Checks.is("no trespass on nobody's", earth.count(4), 0);
    earth.change(0, 0, 1);
    earth.load(0, 1, 2);
    earth.hours(2);
    Checks.is("not used where one is", earth.earth(0, 1), 2);
    Checks.is("no other earth", earth.earth(0, 0), 3);
    SongFields own = Checks.valley("field 5 1 2;field 9 3 4;singer 0;knows 0 1;owns 0 1;sings 1;");
    own.hours(2);
    Checks.is("no trespass on one's own", own.count(4), 0);
  }

  private static void finesFromElsewhere() {
    Checks.sentence("STEPS of the shortest way between that FIELD and the TUNE's; 99, if there is none");
    // 0 is in field 2 and sings 0, 1, 2, 3 in turn: 7 steps off, 4 steps off, one's own, no way at all.
    SongFields x = Checks.valley(
        "field 5 1 2;field 6 3 4;field 7 5 6;field 8 7 8;path 0 1 3;path 1 2 4;singer 2;singer 0;"
            + "knows 0 0;knows 0 1;knows 0 3;owns 1 0;owns 1 1;owns 1 2;owns 1 3;sings hour;");
    int[] paid = {0, 7, 11, 11, 110, 117};
    for (int h = 0; h < paid.length; h++) {
      Checks.is("paid behind " + h, x.purse(0, h), -paid[h]);
      Checks.is("had behind " + h, x.purse(1, h), paid[h]);
    }
    Checks.is("trespasses", x.trespasses(0, 5, 0), 4);
    // The way there and the way back are as far: who is in 0 and sings 2 pays as much as 0 did.
    SongFields y = Checks.valley(
        "field 5 1 2;field 6 3 4;field 7 5 6;path 0 1 3;path 1 2 4;singer 0 1;singer 2;knows 0 2;owns 1 2;sings 2;");
    Checks.is("from 0", y.purse(0, 1), -7);
    Checks.is("from 0, from 1", y.purse(0, 2), -11);
  }

  private static void teaching() {
    SongFields x = Checks.valley(Checks.LINE_OF_THREE);
    Checks.is("taught", x.teach(1, 0), true);
    Checks.is("known", x.singer(1, 2), 5);
    Checks.is("known already", x.teach(1, 0), false);
    Checks.is("known at first", x.teach(0, 0), false);
    Checks.is("acts", x.count(5), 1);
    Checks.is("refused", x.count(9), 2);
    Checks.noSuch("no singer", () -> x.teach(3, 0) ? 1 : 0);
    Checks.noSuch("no field", () -> x.teach(0, 3) ? 1 : 0);
    Checks.noSuch("below", () -> x.teach(-1, -1) ? 1 : 0);
    Checks.is("not refused", x.count(9), 2);
  }

  private static void loading() {
    SongFields x = Checks.valley(Checks.LINE_OF_THREE);
    for (int i = 1; i <= 11; i++) {
      Checks.is("load " + i, x.load(0, 2, 9), 9 * i);
    }
    Checks.is("99 at most", x.load(0, 2, 1), 99);
    Checks.is("it is an act", x.count(5), 12);
    Checks.is("0", x.load(0, 2, 0), -1);
    Checks.is("10", x.load(0, 2, 10), -1);
    Checks.is("-3", x.load(0, 2, -3), -1);
    Checks.is("refused", x.count(9), 3);
    Checks.is("acts", x.count(5), 12);
    x.load(1, 2, 9);
    Checks.is("cut", x.load(1, 2, 1), 10);
    Checks.noSuch("no singer", () -> x.load(3, 0, 1));
    Checks.noSuch("no field ahead", () -> x.load(0, 3, 0));
  }

  private static void changing() {
    SongFields x = Checks.valley(Checks.LINE_OF_THREE);
    Checks.is("as it was", x.change(0, 1, 2), 1);
    Checks.is("now", x.way(0, 1), 2);
    Checks.is("again", x.change(0, 1, 0), 2);
    Checks.is("the first of it", x.change(0, 0, 2), 0);
    Checks.is("one is there at once", x.singer(0, 1), 2);
    Checks.is("what one knows stays", x.singer(0, 2), 3);
    Checks.is("acts", x.count(5), 3);
    Checks.is("no such place", x.change(0, 2, 0), -1);
    Checks.is("no such place", x.change(0, -1, 0), -1);
    Checks.is("no such place", x.change(1, 1, 0), -1);
    Checks.is("refused", x.count(9), 3);
    Checks.noSuch("no singer", () -> x.change(3, 0, 0));
    Checks.noSuch("no field ahead", () -> x.change(0, 9, 3));
    Checks.is("not refused", x.count(9), 3);
    Checks.is("itself", x.change(1, 0, 2), 2);
    Checks.is("is an act", x.count(5), 4);
  }

  private static void selling() {
    SongFields x = Checks.valley(Checks.LINE_OF_THREE);
    Checks.is("sold", x.sell(0, 1), true);
    Checks.is("owner", x.field(0, 2), 1);
    Checks.is("so already", x.sell(0, 1), false);
    Checks.is("to nobody", x.sell(0, -1), true);
    Checks.is("nobody", x.field(0, 2), -1);
    Checks.is("nobody's already", x.sell(0, -1), false);
    Checks.is("from nobody", x.sell(1, 2), true);
    Checks.is("refused", x.count(9), 2);
    Checks.is("acts", x.count(5), 3);
    Checks.noSuch("no field", () -> x.sell(3, 0) ? 1 : 0);
    Checks.noSuch("no singer", () -> x.sell(0, 3) ? 1 : 0);
    Checks.noSuch("-2", () -> x.sell(0, -2) ? 1 : 0);
    Checks.noSuch("no field to nobody", () -> x.sell(3, -1) ? 1 : 0);
  }

  private static void undoing() {
    SongFields x = Checks.valley(Checks.TWO_WITH_RULES);
    x.load(0, 1, 2);
    x.teach(1, 0);
    x.sell(0, 1);
    x.change(1, 0, 0);
    x.hours(5);
    Checks.is("an earth and a trespass", x.earth(0, 1), 0);
    Checks.is("5 acts", x.count(5), 5);
    Checks.is("hours undone", x.undo(), 4);
    Checks.is("hour", x.count(3), 0);
    Checks.is("earth", x.earth(0, 1), 2);
    Checks.is("trespasses", x.count(4), 0);
    Checks.is("purse", x.singer(0, 3), 0);
    Checks.is("way undone", x.undo(), 3);
    Checks.is("way", x.way(1, 0), 1);
    Checks.is("sale undone", x.undo(), 2);
    Checks.is("owner", x.field(0, 2), -1);
    Checks.is("teaching undone", x.undo(), 1);
    Checks.is("known", x.singer(1, 2), 2);
    Checks.is("loading undone", x.undo(), 0);
    Checks.is("earth", x.earth(0, 1), 0);
    Checks.is("none left", x.undo(), -1);
    Checks.is("that is not refused", x.count(9), 0);
    x.hear(0, 1, 0);
    x.hours(99);
    x.hours(1);
    x.undo();
    Checks.is("what is heard stays", x.count(6), 1);
    Checks.is("what was refused stays", x.count(9), 1);
  }

  private static void fortyActs() {
    SongFields x = Checks.valley(Checks.LINE_OF_THREE);
    for (int i = 1; i <= 45; i++) {
      x.hours(1);
      Checks.is("acts", x.count(5), Math.min(40, i));
    }
    for (int i = 1; i <= 40; i++) {
      Checks.is("left", x.undo(), 40 - i);
      Checks.is("hour", x.count(3), 45 - i);
    }
    Checks.is("no more", x.undo(), -1);
    Checks.is("hour 5 stays", x.count(3), 5);
    x.hours(7);
    Checks.is("and on", x.undo(), 0);
    Checks.is("hour 5 again", x.count(3), 5);
  }

  private static void images() {
    SongFields x = Checks.valley(Checks.TWO_WITH_RULES);
    Checks.is("none yet", x.restore(), false);
    x.load(0, 1, 2);
    x.hours(3);
    x.hear(1, 2, 0);
    x.hear(1, 0, 0);
    x.hours(0);
    x.image();
    x.undo();
    x.undo();
    x.teach(1, 0);
    x.sell(0, 0);
    x.change(0, 0, 1);
    x.forget();
    x.hear(0, 3, -1);
    x.hear(0, 3, 1);
    x.hours(31);
    x.hear(0, 0, 0);
    x.feed(0, 0, 0, 0, 0);
    Checks.tell(x, "x");
    for (int turn = 0; turn < 2; turn++) {
      Checks.is("restored", x.restore(), true);
      Checks.is("hour", x.count(3), 3);
      Checks.is("trespasses", x.count(4), 1);
      Checks.is("acts", x.count(5), 2);
      Checks.is("heard", x.count(6), 1);
      Checks.is("texts", x.count(8), 0);
      Checks.is("refused", x.count(9), 1);
      Checks.is("refused heard", x.count(10), 1);
      Checks.is("purse", x.singer(0, 3), -13);
      Checks.is("known", x.singer(1, 2), 2);
      Checks.is("owner", x.field(0, 2), -1);
      Checks.is("way", x.way(0, 0), 0);
      Checks.is("what is heard can't be", x.otherwise(2), 0);
      Checks.is("but by singer 0 in field 1", x.otherwise(0), 1);
      Checks.is("the acts are undone", x.undo(), 1);
      Checks.is("earth", x.earth(0, 1), 2);
      Checks.is("all", x.undo(), 0);
      Checks.is("no earth", x.earth(0, 1), 0);
      x.hours(9);
      x.forget();
    }
    x.image();
    x.hours(2);
    x.restore();
    Checks.is("in place of the other", x.count(3), 9);
    Checks.is("its acts", x.count(5), 1);
    // What is heard is as it was, each part of it.
    SongFields heard = Checks.valley(Checks.LINE_OF_THREE);
    heard.hear(1, 2, 1);
    heard.hear(0, 1, 0);
    heard.image();
    Checks.is("all but 0 elsewhere in the first place", heard.otherwise(0), 6);
    int[][] others = {{0, 2, 1}, {1, 3, 1}, {1, 2, 0}, {2, 3, -1}};
    for (int[] other : others) {
      heard.forget();
      heard.hear(other[0], other[1], other[2]);
      heard.hear(1, 1, -1);
      heard.restore();
      Checks.is("so again", heard.otherwise(2), 1);
      Checks.is("as many steps", heard.otherwise(0), 6);
    }
    // An image with forty acts whose slots went round.
    SongFields y = Checks.valley(Checks.LINE_OF_THREE);
    for (int i = 0; i < 55; i++) {
      y.hours(1);
    }
    y.image();
    for (int i = 0; i < 30; i++) {
      y.hours(2);
    }
    y.restore();
    for (int i = 1; i <= 40; i++) {
      y.undo();
      Checks.is("hour", y.count(3), 55 - i);
    }
  }
}
