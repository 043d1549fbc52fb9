/** The bounds of what an hour does and of the acts, sentence by sentence: ==== 2., and promises 5 to 16. */
public final class BoundsHourTest {
  private static final String FIELD = "field 1 1 1;";
  /** Singer 0 in field 0 sings field 1's tune, which singer 1, who is there, owns; no path. */
  private static final String PAYS = "field 5 1 2;field 9 3 4;singer 0;singer 1;knows 0 1;owns 1 1;sings 1;";

  public static void main(String[] args) {
    placesGoRound();
    knownAtFirst();
    ownedOrNobodys();
    zeroAtFirst();
    modFields();
    withoutSings();
    ifOneKnowsIt();
    earthIsLess();
    earthOfAnyField();
    noTrespass();
    finesKept();
    withoutFines();
    pursesKept();
    whoHears();
    behindInOrder();
    hourMore();
    counts();
    fieldLooks();
    noteLooks();
    singerLooks();
    wayLooks();
    earthLooks();
    fortyActs();
    hours();
    lastHour();
    taught();
    loads();
    changes();
    sold();
    undone();
    Checks.end("BoundsHourTest");
  }

  private static void placesGoRound() {
    Checks.sentence("in HOUR h one is in the (h MOD how many)-th of it.");
    for (int many = 1; many <= 6; many++) {
      StringBuilder way = new StringBuilder(FIELD.repeat(8)).append("singer");
      for (int i = 0; i < many; i++) {
        way.append(' ').append(7 - i);
      }
      SongFields x = Checks.valley(way + ";");
      for (int h = 0; h <= 2 * many; h++) {
        Checks.is("hour " + h + " of " + many, x.singer(0, 1), 7 - h % many);
        Checks.is("who is there", x.field(7 - h % many, 3), 1);
        x.hours(1);
      }
    }
    SongFields y = Checks.valley(FIELD.repeat(2) + "singer 0 1;singer 1 0 0;");
    for (int i = 0; i < 333; i++) {
      y.hours(30);
    }
    y.hours(9);
    Checks.is("hour 9999 of two", y.singer(0, 1), 1);
    Checks.is("hour 9999 of three", y.singer(1, 1), 1);
  }

  private static void knownAtFirst() {
    Checks.sentence("One KNOWS at first the TUNE of the first FIELD of the WAY, and what is told besides.");
    SongFields x = Checks.valley(FIELD.repeat(8) + "singer 7 0 1;singer 0;singer 3 3;knows 1 7;knows 1 5;");
    Checks.is("the first of three", x.singer(0, 2), 128);
    Checks.is("and two told", x.singer(1, 2), 1 + 128 + 32);
    Checks.is("the first of two", x.singer(2, 2), 8);
    String all = FIELD.repeat(8) + "singer 0;";
    for (int f = 1; f < 8; f++) {
      all += "knows 0 " + f + ";";
    }
    Checks.is("all", Checks.valley(all).singer(0, 2), 255);
  }

  private static void ownedOrNobodys() {
    Checks.sentence("A FIELD is OWNED by a SINGER, or nobody's.");
    SongFields x = Checks.valley(FIELD.repeat(8) + "singer 0;".repeat(6) + "owns 5 7;owns 0 0;owns 5 1;");
    int[] due = {0, 5, -1, -1, -1, -1, -1, 5};
    for (int f = 0; f < 8; f++) {
      Checks.is("owner of " + f, x.field(f, 2), due[f]);
    }
  }

  private static void zeroAtFirst() {
    Checks.sentence("The HOUR is 0, PURSES (0) of all, BARROWS empty at first.");
    SongFields x = Checks.valley(FIELD.repeat(8) + "singer 0;".repeat(6));
    Checks.is("hour", x.count(3), 0);
    Checks.is("trespasses", x.count(4), 0);
    for (int s = 0; s < 6; s++) {
      Checks.is("purse", x.singer(s, 3), 0);
      for (int f = 0; f < 8; f++) {
        Checks.is("earth", x.earth(s, f), 0);
      }
    }
  }

  /** What is sung by who knows all of so many fields. */
  private static void sings(int fields, String phrase, int due) {
    StringBuilder all = new StringBuilder(FIELD.repeat(fields)).append("singer 0;");
    for (int f = 1; f < fields; f++) {
      all.append("knows 0 ").append(f).append(';');
    }
    SongFields x = Checks.valley(all + "sings " + phrase + ";");
    Checks.is(phrase + " of " + fields, x.sung(0, 1), due);
    Checks.is(phrase + " of " + fields + ", being first", x.singer(0, 5), due);
  }

  private static void modFields() {
    Checks.sentence("what SINGS gives MOD how many FIELDS there are (0 on: as many more, if below 0;");
    for (int fields = 1; fields <= 8; fields++) {
      sings(fields, "0", 0);
      sings(fields, String.valueOf(fields - 1), fields - 1);
      sings(fields, String.valueOf(fields), 0);
      sings(fields, String.valueOf(fields + 1), 1 % fields);
      sings(fields, "9999", 9999 % fields);
      sings(fields, "0-1", fields - 1);
      sings(fields, "0-" + (fields - 1), 1 % fields);
      sings(fields, "0-" + fields, 0);
      sings(fields, "0-" + (fields + 1), fields - 1);
      sings(fields, "8192*8192*32", Math.floorMod(Integer.MIN_VALUE, fields));
      sings(fields, "8192*8192*32-1", Math.floorMod(Integer.MAX_VALUE, fields));
    }
  }

  private static void withoutSings() {
    Checks.sentence("without it: that where one is)");
    SongFields x = Checks.valley(FIELD.repeat(3) + "singer 2 0 1;knows 0 1;");
    Checks.is("in 2", x.sung(0, 1), 2);
    Checks.is("in 0, not known", x.sung(0, 2), -1);
    Checks.is("in 1", x.sung(0, 3), 1);
    Checks.is("in 2 again", x.sung(0, 4), 2);
  }

  private static void ifOneKnowsIt() {
    Checks.sentence("if one KNOWS it; else one is silent.");
    SongFields x = Checks.valley("field 1 1 1;field 1 2 2;field 1 3 3;singer 0;singer 0;singer 2;owns 2 1;owns 2 2;sings 1;");
    x.load(0, 1, 2);
    x.hours(30);
    Checks.is("nobody sings it", x.singer(1, 2), 1);
    Checks.is("no trespass", x.count(4), 0);
    Checks.is("no fine", x.singer(2, 3), 0);
    Checks.is("no earth is used", x.earth(0, 1), 2);
    Checks.is("silent", x.sung(0, 1), -1);
    Checks.is("silent now", x.singer(0, 5), -1);
    x.teach(1, 1);
    Checks.is("who knows it sings", x.sung(1, 1), 1);
    Checks.is("who is ahead knows it behind that", x.sung(0, 1), -1);
    Checks.is("and sings", x.sung(0, 2), 1);
  }

  private static void earthIsLess() {
    Checks.sentence("and one has EARTH of the TUNE's FIELD in the BARROW, that is 1 less; if one has none, it is a TRESPASS");
    for (int earth = 0; earth <= 3; earth++) {
      SongFields x = Checks.valley(PAYS + "fines 7;");
      if (earth > 0) {
        x.load(0, 1, earth);
      }
      for (int h = 1; h <= 5; h++) {
        x.hours(1);
        Checks.is("earth", x.earth(0, 1), Math.max(0, earth - h));
        Checks.is("trespasses", x.count(4), Math.max(0, h - earth));
        Checks.is("purse", x.singer(0, 3), -7 * Math.max(0, h - earth));
        Checks.is("owner's", x.singer(1, 3), 7 * Math.max(0, h - earth));
      }
    }
    SongFields y = Checks.valley(PAYS);
    y.load(0, 0, 9);
    y.load(1, 1, 9);
    y.hours(3);
    Checks.is("other earth, or another's, doesn't help", y.count(4), 3);
    Checks.is("nor is it used", y.earth(0, 0) + y.earth(1, 1), 18);
  }

  private static void earthOfAnyField() {
    Checks.sentence("If it isn't the TUNE of the FIELD where one is");
    SongFields there = Checks.valley("field 5 1 2;field 9 3 4;singer 1;singer 0;knows 1 1;owns 1 1;sings 1;");
    there.load(0, 1, 3);
    there.hours(5);
    Checks.is("where one is, earth is kept", there.earth(0, 1), 3);
    Checks.is("no trespass, though another's", there.count(4), 0);
    SongFields nobodys = Checks.valley("field 5 1 2;field 9 3 4;singer 0;knows 0 1;sings 1;");
    nobodys.load(0, 1, 3);
    nobodys.hours(2);
    Checks.is("nobody's: used", nobodys.earth(0, 1), 1);
    SongFields own = Checks.valley("field 5 1 2;field 9 3 4;singer 0;knows 0 1;owns 0 1;sings 1;");
    own.load(0, 1, 3);
    own.hours(2);
    Checks.is("one's own: used", own.earth(0, 1), 1);
    // Alike tunes of two fields are two tunes.
    SongFields alike = Checks.valley("field 5 1 2;field 9 1 2;singer 0;singer 1;knows 0 1;owns 1 1;sings 1;");
    alike.hours(1);
    Checks.is("the field counts, not the notes", alike.count(4), 1);
  }

  private static void noTrespass() {
    Checks.sentence("if that FIELD is OWNED by another one");
    SongFields nobodys = Checks.valley("field 5 1 2;field 9 3 4;singer 0;singer 1;knows 0 1;sings 1;");
    nobodys.hours(3);
    Checks.is("nobody's", nobodys.count(4), 0);
    SongFields own = Checks.valley("field 5 1 2;field 9 3 4;singer 0;singer 1;knows 0 1;owns 0 1;sings 1;");
    own.hours(3);
    Checks.is("one's own", own.count(4), 0);
    Checks.is("no fine", own.singer(0, 3), 0);
    SongFields others = Checks.valley(PAYS);
    others.hours(3);
    Checks.is("another's", others.count(4), 3);
    others.sell(1, 0);
    others.hours(3);
    Checks.is("bought", others.count(4), 3);
    others.sell(1, -1);
    others.hours(3);
    Checks.is("given up", others.count(4), 3);
    // Who owns the field where one is doesn't matter.
    SongFields where = Checks.valley("field 5 1 2;field 9 3 4;singer 0;singer 1;knows 0 1;owns 1 0;sings 1;");
    where.hours(3);
    Checks.is("the tune's field is nobody's", where.count(4), 0);
  }

  private static void pays(String rule, int due) {
    SongFields x = Checks.valley(PAYS + rule);
    x.hours(1);
    Checks.is(rule + " pays", -x.singer(0, 3), due);
    Checks.is(rule + " gains", x.singer(1, 3), due);
    Checks.is(rule + " is a trespass", x.count(4), 1);
  }

  private static void finesKept() {
    Checks.sentence("one pays what FINES gives, kept to 0 to 99");
    pays("fines 0;", 0);
    pays("fines 1;", 1);
    pays("fines 0-1;", 0);
    pays("fines 98;", 98);
    pays("fines 99;", 99);
    pays("fines 100;", 99);
    pays("fines 9999;", 99);
    pays("fines 8192*8192*32;", 0);
    pays("fines 8192*8192*32-1;", 99);
  }

  private static void withoutFines() {
    Checks.sentence("(without it 'far')");
    pays("", 99);
    pays("path 0 1 1;", 1);
    pays("path 0 1 20;", 20);
    for (int fields = 6; fields <= 8; fields++) {
      StringBuilder line = new StringBuilder(FIELD.repeat(fields));
      for (int f = 1; f < fields; f++) {
        line.append("path ").append(f - 1).append(' ').append(f).append(f == 1 ? " 19;" : " 20;");
      }
      int last = fields - 1;
      line.append("singer 0;singer " + last + ";knows 0 " + last + ";owns 1 " + last + ";sings " + last + ";");
      SongFields x = Checks.valley(line.toString());
      Checks.is("steps", x.far(0, last), 20 * last - 1);
      Checks.is("kept to 99", x.purse(1, 1), 99);
    }
  }

  /** Hours that go by, thirty at most at once. */
  private static void go(SongFields x, int many) {
    for (int left = many; left > 0; left -= 30) {
      x.hours(Math.min(30, left));
    }
  }

  private static void pursesKept() {
    Checks.sentence("PURSE is so much less, the owner's so much more (both kept to -9999 to 9999).");
    SongFields exact = Checks.valley(PAYS + "fines 99;");
    go(exact, 100);
    Checks.is("9900", exact.singer(1, 3), 9900);
    go(exact, 1);
    Checks.is("9999", exact.singer(1, 3), 9999);
    Checks.is("-9999", exact.singer(0, 3), -9999);
    go(exact, 1);
    Checks.is("no more", exact.singer(1, 3), 9999);
    Checks.is("no less", exact.singer(0, 3), -9999);
    Checks.is("ahead, too", exact.purse(1, 60), 9999);
    Checks.is("ahead, too", exact.purse(0, 60), -9999);
    Checks.is("a trespass all the same", exact.count(4), 102);
    // 98 first, then 99: 9998 behind 101, and one more by a fine of 1, or by one that is cut.
    SongFields one = Checks.valley(PAYS + "fines 99-(purse=0)-98*(purse=0-9998);");
    go(one, 101);
    Checks.is("9998", one.singer(1, 3), 9998);
    Checks.is("-9998", one.singer(0, 3), -9998);
    go(one, 1);
    Checks.is("by 1", one.singer(1, 3), 9999);
    Checks.is("by 1", one.singer(0, 3), -9999);
    SongFields cut = Checks.valley(PAYS + "fines 99-(purse=0)-97*(purse=0-9998);");
    go(cut, 102);
    Checks.is("by 2", cut.singer(1, 3), 9999);
    Checks.is("by 2", cut.singer(0, 3), -9999);
    // Each by itself: two pay one owner, who is full ahead of them.
    SongFields two = Checks.valley(
        "field 5 1 2;field 9 3 4;singer 0;singer 1;singer 0;knows 0 1;owns 1 1;sings 1;fines 99;");
    go(two, 60);
    Checks.is("the owner is full", two.singer(1, 3), 9999);
    Checks.is("the first pays on", two.singer(0, 3), -99 * 60);
    Checks.is("the other pays on", two.singer(2, 3), -99 * 60);
    // One pays two owners in turn, and is empty ahead of them.
    SongFields owners = Checks.valley(
        "field 5 1 2;field 9 3 4;field 9 5 6;singer 0;singer 1;singer 2;knows 0 1;knows 0 2;owns 1 1;owns 2 2;"
            + "sings (singer=0)*(1+hour-hour/2*2)+(0<singer)*field;fines 99;");
    go(owners, 102);
    Checks.is("empty", owners.singer(0, 3), -9999);
    Checks.is("the first has its half", owners.singer(1, 3), 51 * 99);
    Checks.is("the other one, too", owners.singer(2, 3), 51 * 99);
    // And back: who has 9999 pays, and is at once below it.
    SongFields back = Checks.valley(PAYS + "fines 99;");
    go(back, 102);
    back.sell(1, -1);
    back.sell(0, 0);
    Checks.is("9999", back.singer(1, 3), 9999);
    back.change(0, 0, 1);
    back.change(1, 0, 0);
    back.sell(1, 0);
    back.hours(1);
    Checks.is("99 less", back.singer(1, 3), 9900);
    Checks.is("99 more", back.singer(0, 3), -9900);
  }

  private static void whoHears() {
    Checks.sentence("Those others who are in the same FIELD, or in one that has a PATH to it, hear it, and KNOW it from then on");
    // Field 0 has a path to 1 (told either way round); 1 to 2; 3 none.
    String[] paths = {"path 0 1 20;path 1 2 1;", "path 1 0 20;path 2 1 1;"};
    for (String path : paths) {
      SongFields x = Checks.valley(FIELD.repeat(5) + path
          + "singer 0;singer 0;singer 1;singer 2;singer 3;knows 0 4;sings (singer=0)*4+(0<singer)*field;");
      x.hours(1);
      int[] due = {1, 1, 1, 0, 0};
      for (int s = 0; s < 5; s++) {
        Checks.is("singer " + s + " knows 4", x.singer(s, 2) >> 4 & 1, due[s]);
      }
      Checks.is("two steps away it comes never", x.learnt(3, 4), -1);
      Checks.is("nor where there is no path", x.learnt(4, 4), -1);
    }
    // It is where one is who sings that counts, not whose tune it is.
    SongFields far = Checks.valley(FIELD.repeat(3) + "path 1 2 1;singer 0;singer 1;singer 2;knows 0 1;sings (singer=0)*1+(0<singer)*2;");
    far.hours(9);
    Checks.is("in the tune's field nobody hears 0", far.singer(1, 2), 2 + 4);
    // One knows it from then on, wherever one goes.
    SongFields on = Checks.valley(FIELD.repeat(2) + "singer 0;singer 0 1;knows 0 1;sings (singer=0)*(hour<1);");
    on.hours(1);
    Checks.is("heard", on.singer(1, 2), 3);
    on.hours(9);
    Checks.is("known on", on.singer(1, 2), 3);
    // Who sings learns nothing by it; a lone singer has no hearers.
    Checks.is("no hearers", Checks.valley(PAYS + "fines 50+hearers;").purse(1, 1), 50);
  }

  private static void behindInOrder() {
    Checks.sentence("(who is behind in order may SING it in this HOUR)");
    String all = FIELD.repeat(2) + "singer 0;singer 0;singer 0;knows 1 1;sings 1;";
    SongFields x = Checks.valley(all);
    Checks.is("who is ahead is silent", x.sung(0, 1), -1);
    Checks.is("who knows sings", x.sung(1, 1), 1);
    Checks.is("who is behind sings", x.sung(2, 1), 1);
    Checks.is("who was ahead sings then", x.sung(0, 2), 1);
    Checks.is("being first, the last is silent", x.singer(2, 5), -1);
    // From one to the next through the order: 0 to 1 to 2, which 0 alone does not reach.
    String chain = FIELD.repeat(4) + "path 0 1 1;path 1 2 1;singer 0;singer 1;singer 2;knows 0 3;sings 3;";
    Checks.is("in one hour", Checks.valley(chain).learnt(2, 3), 1);
    String turned = FIELD.repeat(4) + "path 0 1 1;path 1 2 1;singer 2;singer 1;singer 0;knows 2 3;sings 3;";
    Checks.is("against the order in two", Checks.valley(turned).learnt(0, 3), 2);
  }

  private static void hourMore() {
    Checks.sentence("The HOUR is 1 more then.");
    SongFields x = Checks.valley(FIELD.repeat(2) + "singer 0;knows 0 1;sings hour;");
    Checks.is("in hour 0", x.sung(0, 1), 0);
    Checks.is("hour", x.hours(1), 1);
    Checks.is("in hour 1", x.sung(0, 1), 1);
    SongFields nobody = new SongFields();
    Checks.is("without anybody, too", nobody.hours(1), 1);
  }

  private static void counts() {
    Checks.sentence("0 FIELDS, 1 PATHS, 2 SINGERS, 3 the HOUR, 4 TRESPASSES so far, 5 ACTS that are kept, 6 HEARD, 7 bytes of the tape, 8 to 10 STATUS 0 to 2.");
    SongFields x = Checks.valley(FIELD.repeat(4) + "path 0 1 1;path 1 2 1;path 2 3 1;singer 0;singer 1;knows 0 1;owns 1 1;sings 1;");
    x.hours(5);
    x.hours(1);
    x.hear(0, 1, 0);
    for (int i = 0; i < 3; i++) {
      Checks.tell(x, "@");
    }
    for (int i = 0; i < 4; i++) {
      x.hours(0);
    }
    for (int i = 0; i < 5; i++) {
      x.hear(0, 0, 0);
    }
    x.feed(0, 0, 0, 0, 0);
    int[] due = {4, 3, 2, 6, 6, 2, 1, 20, 3, 4, 5};
    for (int what = 0; what < due.length; what++) {
      Checks.is("count " + what, x.count(what), due[what]);
    }
    Checks.noSuch("-1", () -> x.count(-1));
    Checks.noSuch("11", () -> x.count(11));
  }

  private static void fieldLooks() {
    Checks.sentence("Of a FIELD: 0 ACRES, 1 NOTES (how many), 2 the owner (NONE: nobody), 3 who is in it in this HOUR (bits), 4 THIRDS of its TUNE (bits), 5 FIELDS that have a PATH to it (bits).");
    String all = "field 7 2 3 4;".repeat(7) + "field 9 0 1 2;";
    for (int f = 0; f < 7; f++) {
      all += "path 7 " + f + " 1;";
    }
    SongFields x = Checks.valley(all + "singer 7;".repeat(6) + "owns 5 7;");
    int[] last = {9, 3, 5, 63, 0, 127};
    int[] first = {7, 3, -1, 0, 128, 128};
    for (int what = 0; what < 6; what++) {
      Checks.is("of the last " + what, x.field(7, what), last[what]);
      Checks.is("of the first " + what, x.field(0, what), first[what]);
    }
    Checks.noSuch("the ninth", () -> x.field(8, 0));
    Checks.noSuch("none below", () -> x.field(-1, 0));
    Checks.noSuch("what 6", () -> x.field(7, 6));
    Checks.noSuch("what -1", () -> x.field(7, -1));
    SongFields one = Checks.valley(FIELD);
    Checks.is("one field", one.field(0, 0), 1);
    Checks.noSuch("no second", () -> one.field(1, 0));
  }

  private static void noteLooks() {
    Checks.sentence("The i-th NOTE of a FIELD's TUNE. NoSuchElementException: also there is none.");
    for (int many = 2; many <= 6; many++) {
      StringBuilder text = new StringBuilder(FIELD).append("field 1");
      for (int i = 0; i < many; i++) {
        text.append(' ').append(9 - i);
      }
      SongFields x = Checks.valley(text + ";");
      int end = many;
      Checks.is("the first", x.note(1, 0), 9);
      Checks.is("the last", x.note(1, end - 1), 10 - end);
      Checks.noSuch("behind it", () -> x.note(1, end));
      Checks.noSuch("ahead", () -> x.note(1, -1));
      Checks.noSuch("of no field", () -> x.note(2, 0));
    }
    // A shorter tune, where a longer one stood, has no more notes than its own.
    SongFields again = Checks.valley("field 1 1 2 3 4 5 6;");
    Checks.tell(again, "field 1 8 9;");
    Checks.noSuch("gone", () -> again.note(0, 2));
  }

  private static void singerLooks() {
    Checks.sentence("Of a SINGER: 0 FIELDS of the WAY, 1 the FIELD in this HOUR, 2 TUNES that one KNOWS (bits), 3 PURSE, 4 FREE (bits), 5 the TUNE that one would SING now, being first (NONE: silent).");
    SongFields x = Checks.valley(FIELD.repeat(8) + "singer 0;".repeat(5) + "singer 7 6 5 4 3 2;");
    int[] due = {6, 7, 128, 0, 128, 7};
    for (int what = 0; what < 6; what++) {
      Checks.is("of the last " + what, x.singer(5, what), due[what]);
    }
    Checks.noSuch("the seventh", () -> x.singer(6, 0));
    Checks.noSuch("none below", () -> x.singer(-1, 0));
    Checks.noSuch("what 6", () -> x.singer(5, 6));
    Checks.noSuch("what -1", () -> x.singer(5, -1));
    Checks.sentence("FREE for a SINGER now: TUNES that one KNOWS and that would be no TRESPASS where one is in this HOUR (bits).");
    SongFields free = Checks.valley(
        FIELD.repeat(5) + "singer 0 1;singer 0;knows 0 1;knows 0 2;knows 0 3;owns 1 0;owns 1 1;owns 0 2;owns 1 4;");
    Checks.is("here, one's own, nobody's", free.singer(0, 4), 1 + 4 + 8);
    free.hours(1);
    Checks.is("there", free.singer(0, 4), 2 + 4 + 8);
    free.load(0, 0, 1);
    Checks.is("with earth", free.singer(0, 4), 1 + 2 + 4 + 8);
    free.load(0, 4, 1);
    Checks.is("earth of what one doesn't know", free.singer(0, 4), 1 + 2 + 4 + 8);
    free.teach(0, 4);
    Checks.is("taught", free.singer(0, 4), 31);
    free.load(0, 1, 1);
    free.hours(1);
    Checks.is("earth is still there", free.singer(0, 4), 31);
  }

  private static void wayLooks() {
    Checks.sentence("The i-th FIELD of a WAY. NoSuchElementException: also there is none.");
    for (int many = 1; many <= 6; many++) {
      StringBuilder text = new StringBuilder(FIELD.repeat(7)).append("singer 0 0 0 0 0 0;singer");
      for (int i = 0; i < many; i++) {
        text.append(' ').append(6 - i);
      }
      SongFields x = Checks.valley(text + ";");
      int end = many;
      Checks.is("the first", x.way(1, 0), 6);
      Checks.is("the last", x.way(1, end - 1), 7 - end);
      Checks.noSuch("behind it", () -> x.way(1, end));
      Checks.noSuch("ahead", () -> x.way(1, -1));
      Checks.noSuch("of no singer", () -> x.way(2, 0));
    }
  }

  private static void earthLooks() {
    Checks.sentence("EARTH of a FIELD in a SINGER's BARROW.");
    SongFields x = Checks.valley(FIELD.repeat(8) + "singer 0;".repeat(6));
    x.load(5, 7, 9);
    Checks.is("the last", x.earth(5, 7), 9);
    Checks.is("the first", x.earth(0, 0), 0);
    Checks.is("beside it", x.earth(5, 6), 0);
    Checks.is("above it", x.earth(4, 7), 0);
    Checks.noSuch("no field", () -> x.earth(5, 8));
    Checks.noSuch("no singer", () -> x.earth(6, 7));
    Checks.noSuch("below", () -> x.earth(-1, 0));
    Checks.noSuch("below", () -> x.earth(0, -1));
  }

  private static void fortyActs() {
    Checks.sentence("ACTS (at most 40 are kept, the latest ones)");
    int[] many = {0, 1, 39, 40, 41, 42, 79, 80, 81, 130};
    for (int m : many) {
      SongFields x = Checks.valley(Checks.LINE_OF_THREE);
      for (int i = 0; i < m; i++) {
        x.hours(1);
      }
      int kept = Math.min(40, m);
      Checks.is("kept of " + m, x.count(5), kept);
      for (int i = 1; i <= kept; i++) {
        Checks.is("left", x.undo(), kept - i);
      }
      Checks.is("no more", x.undo(), -1);
      Checks.is("the hour", x.count(3), m - kept);
      Checks.is("none", x.count(5), 0);
    }
    // One is undone and one is done: forty again, and the oldest is not lost by it.
    SongFields y = Checks.valley(Checks.LINE_OF_THREE);
    for (int i = 0; i < 40; i++) {
      y.hours(1);
    }
    for (int i = 0; i < 10; i++) {
      Checks.is("one less", y.undo(), 39);
      y.hours(1);
      Checks.is("forty", y.count(5), 40);
    }
    for (int i = 1; i <= 40; i++) {
      y.undo();
    }
    Checks.is("hour 0", y.count(3), 0);
    // A refused act is none: it takes no place.
    SongFields z = Checks.valley(Checks.LINE_OF_THREE);
    for (int i = 0; i < 40; i++) {
      z.hours(1);
      z.hours(0);
      z.teach(0, 0);
    }
    Checks.is("forty", z.count(5), 40);
    for (int i = 1; i <= 40; i++) {
      z.undo();
    }
    Checks.is("hour 0", z.count(3), 0);
  }

  private static void hours() {
    Checks.sentence("HOURS go by (1 to 30)");
    for (int many = 1; many <= 30; many++) {
      SongFields x = Checks.valley(PAYS + "fines 1;");
      Checks.is("hours " + many, x.hours(many), many);
      Checks.is("it is one act", x.count(5), 1);
      Checks.is("each was sung", x.singer(1, 3), many);
      Checks.is("undone", x.undo(), 0);
      Checks.is("hour 0", x.count(3), 0);
    }
    Checks.sentence("`int hours(int many)`: HOURS go by: the HOUR. NONE (STATUS 1): not 1 to 30");
    SongFields x = Checks.valley(PAYS);
    Checks.is("0", x.hours(0), -1);
    Checks.is("31", x.hours(31), -1);
    Checks.is("the hour", x.count(3), 0);
    Checks.is("refused", x.count(9), 2);
  }

  private static void lastHour() {
    Checks.sentence("it would be above 9999.");
    SongFields x = new SongFields();
    for (int i = 0; i < 332; i++) {
      x.hours(30);
    }
    Checks.is("9960", x.count(3), 9960);
    Checks.is("9989", x.hours(29), 9989);
    Checks.is("11 are too many", x.hours(11), -1);
    Checks.is("30 are too many", x.hours(30), -1);
    Checks.is("10 are not", x.hours(10), 9999);
    Checks.is("one more", x.hours(1), -1);
    Checks.is("refused", x.count(9), 3);
    Checks.is("undone", x.undo(), 39);
    Checks.is("9989", x.count(3), 9989);
    Checks.is("9", x.hours(9), 9998);
    Checks.is("two are too many", x.hours(2), -1);
    Checks.is("one is not", x.hours(1), 9999);
  }

  private static void taught() {
    Checks.sentence("TAUGHT: true. False (STATUS 1): KNOWN already.");
    SongFields x = Checks.valley(FIELD.repeat(8) + "singer 0;".repeat(6));
    Checks.is("the last of the last", x.teach(5, 7), true);
    Checks.is("known", x.singer(5, 2), 129);
    Checks.is("by that one alone", x.singer(4, 2), 1);
    Checks.is("again", x.teach(5, 7), false);
    Checks.is("the first of the way", x.teach(5, 0), false);
    Checks.is("one act", x.count(5), 1);
    Checks.is("two refused", x.count(9), 2);
    Checks.is("undone", x.undo(), 0);
    Checks.is("not known", x.singer(5, 2), 1);
    Checks.is("may be taught again", x.teach(5, 7), true);
    SongFields heard = Checks.valley(FIELD.repeat(2) + "singer 0;singer 0;knows 0 1;sings 1;");
    heard.hours(1);
    Checks.is("what was heard is known", heard.teach(1, 1), false);
    heard.undo();
    Checks.is("until that is undone", heard.teach(1, 1), true);
  }

  private static void loads() {
    Checks.sentence("one LOADS EARTH (so much more of a FIELD, 1 to 9, 99 at most)");
    SongFields x = Checks.valley(FIELD.repeat(8) + "singer 0;".repeat(6));
    int sum = 0;
    for (int much = 1; much <= 9; much++) {
      sum += much;
      Checks.is("load " + much, x.load(5, 7, much), sum);
    }
    for (int i = 0; i < 5; i++) {
      sum += 9;
      Checks.is("nine more", x.load(5, 7, 9), sum);
    }
    Checks.is("98", x.load(5, 7, 8), 98);
    Checks.is("99", x.load(5, 7, 1), 99);
    Checks.is("99 at most", x.load(5, 7, 1), 99);
    Checks.is("99 at most", x.load(5, 7, 9), 99);
    Checks.is("all are acts", x.count(5), 18);
    Checks.is("none refused", x.count(9), 0);
    Checks.is("undone", x.undo(), 17);
    Checks.is("99 still", x.earth(5, 7), 99);
    x.undo();
    x.undo();
    Checks.is("98", x.earth(5, 7), 98);
    Checks.is("from 98 by 9", x.load(5, 7, 9), 99);
    x.undo();
    Checks.is("98 again", x.earth(5, 7), 98);
    Checks.is("0", x.load(5, 7, 0), -1);
    Checks.is("10", x.load(5, 7, 10), -1);
    Checks.is("98 still", x.earth(5, 7), 98);
    Checks.is("refused", x.count(9), 2);
    Checks.noSuch("no singer", () -> x.load(6, 7, 1));
    Checks.noSuch("no field", () -> x.load(5, 8, 1));
  }

  private static void changes() {
    Checks.sentence("A WAY's i-th FIELD becomes another: as it was. NONE (STATUS 1): no such place in it.");
    for (int many = 1; many <= 6; many++) {
      SongFields x = Checks.valley(FIELD.repeat(8) + "singer 3 3 3 3 3 3;singer" + " 3".repeat(many) + ";singer 3 3 3 3 3 3;");
      Checks.is("the last place", x.change(1, many - 1, 7), 3);
      Checks.is("it is so", x.way(1, many - 1), 7);
      Checks.is("behind it", x.change(1, many, 7), -1);
      Checks.is("ahead", x.change(1, -1, 7), -1);
      Checks.is("refused", x.count(9), 2);
      Checks.is("one act", x.count(5), 1);
      Checks.is("the way is as long", x.singer(1, 0), many);
      for (int i = 0; i < 6; i++) {
        Checks.is("another's way", x.way(0, i) + x.way(2, i), 6);
      }
      Checks.is("as it was", x.change(1, many - 1, 0), 7);
      Checks.is("undone", x.undo(), 1);
      Checks.is("7", x.way(1, many - 1), 7);
      Checks.is("undone", x.undo(), 0);
      Checks.is("3", x.way(1, many - 1), 3);
    }
    SongFields same = Checks.valley(FIELD.repeat(2) + "singer 1 0;");
    Checks.is("the same one", same.change(0, 0, 1), 1);
    Checks.is("is an act", same.count(5), 1);
    Checks.is("refused is none", same.count(9), 0);
    same.change(0, 0, 0);
    Checks.is("the tune of the first is known still", same.singer(0, 2), 2);
    Checks.is("that of the new one is not", same.singer(0, 5), -1);
  }

  private static void sold() {
    Checks.sentence("SOLD (singer NONE: to nobody): true. False (STATUS 1): it is so already.");
    SongFields x = Checks.valley(FIELD.repeat(8) + "singer 0;".repeat(6));
    Checks.is("nobody's already", x.sell(7, -1), false);
    Checks.is("to the last", x.sell(7, 5), true);
    Checks.is("again", x.sell(7, 5), false);
    Checks.is("to the first", x.sell(7, 0), true);
    Checks.is("to nobody", x.sell(7, -1), true);
    Checks.is("again", x.sell(7, -1), false);
    Checks.is("refused", x.count(9), 3);
    Checks.is("acts", x.count(5), 3);
    Checks.is("undone", x.undo(), 2);
    Checks.is("the first's", x.field(7, 2), 0);
    x.undo();
    Checks.is("the last's", x.field(7, 2), 5);
    x.undo();
    Checks.is("nobody's", x.field(7, 2), -1);
    Checks.noSuch("-2", () -> x.sell(7, -2) ? 1 : 0);
    Checks.noSuch("6", () -> x.sell(7, 6) ? 1 : 0);
    Checks.noSuch("no field", () -> x.sell(8, 0) ? 1 : 0);
    Checks.noSuch("no field", () -> x.sell(-1, -1) ? 1 : 0);
  }

  /** The first so many of six acts, one of each kind and hours twice. */
  private static SongFields withActs(int many) {
    SongFields x = Checks.valley(Checks.TWO_WITH_RULES);
    Twins.Call[] acts = {
      y -> y.load(0, 1, 2), y -> y.hours(3), y -> y.sell(1, 0) ? 1 : 0, y -> y.teach(1, 0) ? 1 : 0, y -> y.change(0, 0, 1), y -> y.hours(30)
    };
    for (int i = 0; i < many; i++) {
      acts[i].on(x);
      Checks.is("acts", x.count(5), i + 1);
    }
    return x;
  }

  private static void undone() {
    Checks.sentence("They are UNDONE, the last one first.");
    for (int left = 0; left <= 6; left++) {
      SongFields x = withActs(6);
      for (int i = 5; i >= left; i--) {
        Checks.is("left", x.undo(), i);
      }
      Checks.is("as it was behind " + left, Twins.look(x), Twins.look(withActs(left)));
    }
    SongFields none = withActs(0);
    Checks.is("no more", none.undo(), -1);
    Checks.is("as it was", Twins.look(none), Twins.look(withActs(0)));
    Checks.sentence("`int undo()`: The last ACT is UNDONE: how many are left. NONE: there is none.");
    SongFields y = Checks.valley(Checks.TWO_WITH_RULES);
    y.hours(0);
    y.hear(0, 1, 0);
    y.hear(0, 0, 0);
    Checks.is("what is heard is no act, nor what is refused", y.undo(), -1);
    y.hours(1);
    y.hours(0);
    y.hear(0, 2, 0);
    Checks.is("one", y.undo(), 0);
    Checks.is("what is heard stays", y.count(6), 2);
    Checks.is("what was refused stays", Twins.status(y), "0 2 1");
    Checks.is("none", y.undo(), -1);
    Checks.is("that is no refusal", Twins.status(y), "0 2 1");
  }
}
