/** Promises 30 to 33: what is heard, and what it tells. */
public final class HeardTest {
  public static void main(String[] args) {
    hearing();
    forgetting();
    withoutAny();
    otherwise();
    listening();
    Checks.end("HeardTest");
  }

  private static void hearing() {
    SongFields x = Checks.valley(Checks.LINE_OF_THREE);
    Checks.is("one", x.hear(0, 1, 0), 1);
    Checks.is("the 30th", x.hear(2, 30, -1), 2);
    Checks.is("0", x.hear(0, 0, 0), -1);
    Checks.is("31", x.hear(0, 31, 0), -1);
    Checks.is("refused", x.count(10), 2);
    for (int i = 3; i <= 8; i++) {
      Checks.is("heard", x.hear(0, 1, 0), i);
    }
    Checks.is("the ninth", x.hear(0, 1, 0), -1);
    Checks.is("8", x.count(6), 8);
    Checks.is("refused", x.count(10), 3);
    Checks.noSuch("no field ahead", () -> x.hear(3, 0, 0));
    Checks.noSuch("no tune ahead", () -> x.hear(0, 0, 3));
    Checks.noSuch("-2", () -> x.hear(0, 1, -2));
    Checks.noSuch("below", () -> x.hear(-1, 1, 0));
    Checks.is("not refused", x.count(10), 3);
    Checks.is("no act", x.count(5), 0);
  }

  private static void forgetting() {
    SongFields x = Checks.valley(Checks.LINE_OF_THREE);
    x.hear(0, 1, -1);
    x.hear(0, 1, 2);
    Checks.is("it can't be", x.otherwise(0), 0);
    Checks.is("no first", x.otherwise(1), -1);
    Checks.is("not without", x.otherwise(2), 0);
    Checks.is("nowhere", x.listen(0), -1);
    Checks.is("none", x.listen(1), 0);
    x.forget();
    Checks.is("nothing heard", x.count(6), 0);
    Checks.is("all steps", x.otherwise(0), 8);
    Checks.is("without", x.otherwise(2), 1);
    x.forget();
    Checks.is("again", x.count(6), 0);
  }

  private static void withoutAny() {
    SongFields x = new SongFields();
    Checks.is("no steps", x.otherwise(0), 0);
    Checks.is("no first", x.otherwise(1), -1);
    Checks.is("so without", x.otherwise(2), 1);
    Checks.is("nowhere", x.listen(0), -1);
    Checks.is("none", x.listen(1), 0);
    Checks.noSuch("what 3", () -> x.otherwise(3));
    Checks.noSuch("what -1", () -> x.otherwise(-1));
    Checks.noSuch("listen 2", () -> x.listen(2));
    Checks.noSuch("listen -1", () -> x.listen(-1));
    SongFields alone = Checks.valley("field 1 1 1;singer 0 0;");
    Checks.is("one field", alone.otherwise(0), 0);
    Checks.is("nowhere", alone.listen(0), -1);
    Checks.is("so without", alone.otherwise(2), 1);
    SongFields nobody = Checks.valley("field 1 1 1;field 1 1 1;");
    Checks.is("nobody sings", nobody.otherwise(2), 1);
    nobody.hear(0, 1, -1);
    Checks.is("none is heard", nobody.otherwise(2), 1);
    nobody.hear(0, 1, 0);
    Checks.is("that can't be", nobody.otherwise(2), 0);
  }

  private static void otherwise() {
    SongFields x = Checks.valley(Checks.LINE_OF_THREE);
    x.hear(0, 1, 0);
    Checks.is("it is so", x.otherwise(2), 1);
    Checks.is("all but two steps", x.otherwise(0), 6);
    Checks.is("the first", x.otherwise(1), 10);
    x.forget();
    x.hear(0, 2, -1);
    x.hear(0, 1, 0);
    Checks.is("so", x.otherwise(2), 1);
    // Not 0 in another first place; and nobody in 0, who would hear it and sing it there.
    Checks.is("0 to 2 in the second place, 1 to 1, 2 to 2", x.otherwise(0), 3);
    Checks.is("the first", x.otherwise(1), 12);
    x.forget();
    x.hear(2, 1, 1);
    Checks.is("0 knows 1, but sings where it is", x.otherwise(0), 0);
    x.forget();
    x.hear(1, 1, -1);
    Checks.is("2 is elsewhere", x.otherwise(0), 2);
    Checks.is("singer 2, place 0, field 0", x.otherwise(1), 200);
    x.hear(0, 2, -1);
    Checks.is("in 0 it would hear 0, and sing it there", x.otherwise(0), 1);
    Checks.is("singer 2, place 0, field 2", x.otherwise(1), 202);
    x.hours(1);
    // From now on: the first hour is hour 1 now, where 0 is in 1.
    x.forget();
    x.hear(1, 1, -1);
    Checks.is("two in 1", x.otherwise(0), 0);
    x.forget();
    x.hear(0, 1, 0);
    Checks.is("by the second place", x.otherwise(1), 10);
    Checks.is("and by singer 2, who knows it now", x.otherwise(0), 2);
    x.undo();
    Checks.is("in hour 0 it is so", x.otherwise(2), 1);
    // The 30th hour is looked at.
    SongFields y = Checks.valley("field 1 1 1;field 1 2 2;singer 0;singer 0;knows 0 1;sings hour=29;");
    y.hear(0, 30, 1);
    Checks.is("so", y.otherwise(2), 1);
    y.hear(0, 29, 1);
    Checks.is("not so", y.otherwise(2), 0);
  }

  private static void listening() {
    SongFields x = Checks.valley(Checks.LINE_OF_THREE);
    // Eight steps: in field 0 is sung 0 or none.
    Checks.is("field 0", x.listen(0), 0);
    Checks.is("0 or none", x.listen(1), 2);
    x.hear(0, 1, 0);
    // In 0 it is 0 now; in 1 it is 1 or none.
    Checks.is("field 1", x.listen(0), 1);
    Checks.is("1 or none", x.listen(1), 2);
    x.hear(1, 1, 1);
    Checks.is("field 2", x.listen(0), 2);
    Checks.is("2 or none", x.listen(1), 2);
    x.hear(2, 1, 2);
    Checks.is("all alike", x.listen(0), 0);
    Checks.is("one", x.listen(1), 1);
    SongFields one = Checks.valley("field 1 1 1;field 1 2 2;singer 0;");
    Checks.is("by one step", one.listen(0), 0);
    Checks.is("one", one.listen(1), 1);
    // Only the next hour counts: the second place makes nothing unlike in it.
    SongFields next = Checks.valley("field 1 1 1;field 1 2 2;singer 0 0;singer 1;knows 0 1;");
    next.hear(0, 1, 0);
    next.hear(1, 1, 1);
    Checks.is("the second place, or where 1 is heard by both", next.otherwise(0), 1);
    Checks.is("alike", next.listen(1), 1);
    // Of two in one field the least tune counts, and none is one of the unlike.
    SongFields y = Checks.valley(
        "field 1 1 1;field 1 2 2;field 1 3 3;field 1 4 4;singer 3;singer 2;knows 0 2;knows 1 3;sings 3-singer;");
    Checks.is("in 0 are 3, 2 and none", y.listen(1), 3);
    Checks.is("field 0", y.listen(0), 0);
    // Of eight fields nothing is sung in 0, in each of the others its tune or none.
    SongFields eight = Checks.valley(
        "field 1 1 1;".repeat(8) + "singer 0;knows 0 1;knows 0 2;knows 0 3;knows 0 4;knows 0 5;knows 0 6;knows 0 7;");
    Checks.is("seven steps", eight.otherwise(0), 7);
    Checks.is("the least of like ones", eight.listen(0), 1);
    Checks.is("its tune or none", eight.listen(1), 2);
    eight.hear(7, 1, 7);
    Checks.is("one step", eight.otherwise(1), 7);
    Checks.is("all alike", eight.listen(0), 0);
  }
}
