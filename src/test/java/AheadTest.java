/** Promises 17 to 23: what comes, if only hours go by. */
public final class AheadTest {
  public static void main(String[] args) {
    sung();
    learnt();
    purses();
    trespasses();
    allKnow();
    lost();
    needed();
    nothingChanges();
    beyondTheLastHour();
    Checks.end("AheadTest");
  }

  private static void sung() {
    SongFields x = Checks.valley(Checks.LINE_OF_THREE);
    Checks.is("in 0", x.sung(0, 1), 0);
    Checks.is("in 1", x.sung(0, 2), 1);
    Checks.is("in 0 again", x.sung(0, 3), 0);
    Checks.is("the 60th", x.sung(0, 60), 1);
    x.hours(1);
    Checks.is("from now", x.sung(0, 1), 1);
    Checks.illegal("0", () -> x.sung(0, 0));
    Checks.illegal("61", () -> x.sung(0, 61));
    Checks.noSuch("no singer", () -> x.sung(3, 1));
    Checks.noSuch("no singer ahead", () -> x.sung(-1, 0));
    SongFields y = Checks.valley("field 1 1 1;field 2 2 2;field 3 3 3;singer 0;knows 0 1;sings hour;");
    int[] due = {0, 1, -1, 0, 1, -1};
    for (int k = 1; k <= 6; k++) {
      Checks.is("by the hour " + k, y.sung(0, k), due[k - 1]);
    }
    // What the rule tells of the second singer is its own: what it knows, its purse, its number.
    String second = "field 1 1 1;field 1 2 2;field 1 3 3;singer 0;singer 1;owns 0 0;knows 1 0;knows 1 2;fines 1;";
    Checks.is("known", Checks.valley(second + "sings known-1;").sung(1, 1), 2);
    Checks.is("of the first", Checks.valley(second + "sings known-1;").sung(0, 1), 0);
    Checks.is("no purse yet", Checks.valley(second + "sings 0-purse*2;").sung(1, 1), 0);
    Checks.is("a purse below 0", Checks.valley(second + "sings 0-purse*2;").sung(1, 2), 2);
    Checks.is("that is not less by nobody's", Checks.valley(second + "sings 0-purse*2;").purse(1, 5), -1);
    Checks.is("the owner's", Checks.valley(second + "sings 0-purse*2;").purse(0, 5), 1);
  }

  private static void learnt() {
    SongFields x = Checks.valley(Checks.LINE_OF_THREE);
    Checks.is("known", x.learnt(0, 1), 0);
    Checks.is("in one", x.learnt(2, 0), 1);
    Checks.is("in two", x.learnt(0, 2), 2);
    Checks.is("never", x.learnt(1, 0), -1);
    Checks.noSuch("no singer", () -> x.learnt(3, 0));
    Checks.noSuch("no field", () -> x.learnt(0, 3));
    // Sung only in the 60th hour, and in the 61st.
    String late = "field 1 1 1;field 1 2 2;singer 0;singer 0;knows 0 1;sings hour=";
    Checks.is("60", Checks.valley(late + "59;").learnt(1, 1), 60);
    Checks.is("61", Checks.valley(late + "60;").learnt(1, 1), -1);
    Checks.is("all 60", Checks.valley(late + "59;").allKnow(1), 60);
    Checks.is("all 61", Checks.valley(late + "60;").allKnow(1), -1);
  }

  private static void purses() {
    SongFields x = Checks.valley(Checks.TWO_WITH_RULES);
    Checks.is("now", x.purse(0, 0), 0);
    Checks.is("behind 1", x.purse(0, 1), -13);
    Checks.is("behind 60", x.purse(0, 60), -780);
    Checks.is("the owner's", x.purse(1, 60), 780);
    x.load(0, 1, 2);
    Checks.is("with earth", x.purse(0, 3), -13);
    Checks.illegal("-1", () -> x.purse(0, -1));
    Checks.illegal("61", () -> x.purse(0, 61));
    Checks.noSuch("no singer ahead", () -> x.purse(2, 61));
  }

  private static void trespasses() {
    SongFields x = Checks.valley(Checks.TWO_WITH_RULES);
    x.hours(2);
    Checks.is("by 0", x.trespasses(0, 3, 0), 3);
    Checks.is("on 0", x.trespasses(0, 3, 1), 0);
    Checks.is("by 1", x.trespasses(1, 3, 0), 0);
    Checks.is("on 1", x.trespasses(1, 3, 1), 3);
    Checks.is("in none", x.trespasses(0, 0, 0), 0);
    Checks.is("in 60", x.trespasses(1, 60, 1), 60);
    Checks.illegal("-1", () -> x.trespasses(0, -1, 0));
    Checks.illegal("61", () -> x.trespasses(0, 61, 1));
    Checks.noSuch("what 2 ahead", () -> x.trespasses(0, 61, 2));
    Checks.noSuch("what -1", () -> x.trespasses(0, 1, -1));
    Checks.noSuch("no singer", () -> x.trespasses(2, 1, 0));
    // Two owned fields of one singer, trespassed by two.
    SongFields y = Checks.valley(
        "field 1 1 1;field 1 2 2;field 1 3 3;singer 0;singer 0;singer 0;owns 2 1;owns 2 2;knows 0 1;knows 1 2;sings singer+1;");
    Checks.is("by 0", y.trespasses(0, 4, 0), 4);
    Checks.is("by 1", y.trespasses(1, 4, 0), 4);
    Checks.is("on 2", y.trespasses(2, 4, 1), 8);
    SongFields first = Checks.valley("field 1 1 1;field 1 2 2;singer 1;singer 1;knows 0 0;owns 1 0;sings 0;");
    Checks.is("on field 0", first.trespasses(1, 4, 1), 4);
  }

  private static void allKnow() {
    SongFields x = Checks.valley(Checks.LINE_OF_THREE);
    Checks.is("1", x.allKnow(1), 1);
    Checks.is("2", x.allKnow(2), 2);
    Checks.is("0", x.allKnow(0), -1);
    x.teach(1, 1);
    Checks.is("now", x.allKnow(1), 0);
    Checks.noSuch("no field", () -> x.allKnow(3));
    Checks.noSuch("below", () -> x.allKnow(-1));
    Checks.is("without singers", Checks.valley("field 1 1 1;").allKnow(0), 0);
  }

  private static void lost() {
    SongFields x = Checks.valley(Checks.LINE_OF_THREE);
    Checks.is("0's own", x.lost(0), 1);
    Checks.is("1's own", x.lost(1), 4);
    Checks.is("of 2 nothing", x.lost(2), 0);
    Checks.noSuch("no singer", () -> x.lost(3));
    Checks.is("alone", Checks.valley("field 1 1 1;singer 0;").lost(0), 0);
    // Only what is sung within 30 hours counts.
    String late = "field 1 1 1;field 1 2 2;singer 0;singer 0;knows 0 1;sings hour=";
    Checks.is("the 30th", Checks.valley(late + "29;").lost(0), 2);
    Checks.is("the 31st", Checks.valley(late + "30;").lost(0), 0);
    // What the first and the last one know counts as well as what is between.
    String three = "field 1 1 1;field 1 2 2;field 1 3 3;singer 0;singer 0;singer 0;knows 0 1;knows 2 2;sings hour;";
    Checks.is("of the middle one nothing", Checks.valley(three).lost(1), 0);
    Checks.is("of the first", Checks.valley(three).lost(0), 2);
    Checks.is("of the last", Checks.valley(three).lost(2), 4);
    Checks.is("which the first knows", Checks.valley(three.replace("knows 0 1", "knows 0 2")).lost(2), 0);
    Checks.is("of two", Checks.valley(three.replace("knows 0 1", "knows 2 1")).lost(2), 6);
    // What a silent one hears is not the others' knowledge.
    Checks.is("both know", Checks.valley("field 1 1 1;field 1 2 2;singer 0;singer 0;singer 0;knows 0 1;knows 1 1;sings 1;").lost(0), 0);
  }

  private static void needed() {
    SongFields x = Checks.valley(Checks.TWO_WITH_RULES);
    Checks.is("4", x.needed(0, 1, 4), 4);
    Checks.is("60", x.needed(0, 1, 60), 60);
    Checks.is("1", x.needed(0, 1, 1), 1);
    x.load(0, 1, 9);
    Checks.is("in place of what there is", x.needed(0, 1, 4), 4);
    Checks.is("not another tune", x.needed(0, 0, 4), 0);
    Checks.is("not the owner", x.needed(1, 1, 4), 0);
    x.sell(1, -1);
    Checks.is("nobody's", x.needed(0, 1, 4), 0);
    x.sell(1, 0);
    Checks.is("one's own", x.needed(0, 1, 4), 0);
    SongFields second = Checks.valley("field 1 1 1;field 1 2 2;singer 1;singer 0;knows 1 1;owns 0 1;sings 1;");
    Checks.is("of the second", second.needed(1, 1, 7), 7);
    second.load(1, 1, 5);
    Checks.is("what it has counts for nothing", second.needed(1, 1, 7), 7);
    Checks.is("what it has is used", second.trespasses(1, 7, 0), 2);
    Checks.illegal("0", () -> x.needed(0, 1, 0));
    Checks.illegal("61", () -> x.needed(0, 1, 61));
    Checks.noSuch("no singer ahead", () -> x.needed(2, 1, 61));
    Checks.noSuch("no field ahead", () -> x.needed(0, 2, 0));
    // Who pays nothing sings on; who has paid is silent: the earth that is needed is that of who doesn't pay.
    SongFields y = Checks.valley(
        "field 1 1 1;field 1 2 2;field 1 3 3;singer 0;singer 1;knows 0 1;owns 1 1;sings (purse=0)*(1-singer)+2*(purse<0);fines 5;");
    Checks.is("a payer is silent then", y.trespasses(0, 9, 0), 1);
    Checks.is("all 9 hours", y.needed(0, 1, 9), 9);
  }

  private static void nothingChanges() {
    SongFields x = Checks.valley(Checks.TWO_WITH_RULES);
    x.load(0, 1, 2);
    x.sung(0, 60);
    x.learnt(1, 0);
    x.purse(0, 60);
    x.trespasses(0, 60, 1);
    x.allKnow(0);
    x.lost(0);
    x.needed(0, 1, 60);
    x.larks(1, 60, 0);
    x.otherwise(0);
    x.listen(0);
    Checks.is("hour", x.count(3), 0);
    Checks.is("trespasses", x.count(4), 0);
    Checks.is("acts", x.count(5), 1);
    Checks.is("earth", x.earth(0, 1), 2);
    Checks.is("purse", x.singer(0, 3), 0);
    Checks.is("known", x.singer(1, 2), 2);
    Checks.is("way", x.way(0, 0), 0);
  }

  private static void beyondTheLastHour() {
    SongFields x = Checks.valley("field 1 1 1;field 1 2 2;singer 0;knows 0 1;sings hour=10002;".replace("10002", "9999+3"));
    for (int i = 0; i < 333; i++) {
      x.hours(30);
    }
    x.hours(9);
    Checks.is("the last hour", x.count(3), 9999);
    Checks.is("hours ahead go on", x.sung(0, 4), 1);
    Checks.is("behind it", x.sung(0, 5), 0);
  }
}
