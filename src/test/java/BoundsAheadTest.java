import java.util.Random;

/** The bounds of what comes and of what the fields tell, sentence by sentence: ==== 3., and promises 17 to 29. */
public final class BoundsAheadTest {
  private static final String FIELD = "field 1 1 1;";
  /** Singer 0 in field 0 sings field 1's tune, which singer 1, who is there, owns; no path. */
  private static final String PAYS = "field 5 1 2;field 9 3 4;singer 0;singer 1;knows 0 1;owns 1 1;sings 1;fines 1;";

  public static void main(String[] args) {
    fromNowOn();
    sung();
    learnt();
    purses();
    trespasses();
    onesNow();
    allKnow();
    lost();
    needed();
    needIsTheLeast();
    thirds();
    common();
    nearest();
    far();
    rounds();
    roundsByAllOrders();
    weddings();
    heirs();
    heirsByAllWays();
    Checks.end("BoundsAheadTest");
  }

  /** What is sung in one hour only: singer 0's tune 1, heard by singer 1. */
  private static SongFields only(String hour) {
    return Checks.valley("field 1 1 1;field 1 2 2;singer 0;singer 0;knows 0 1;sings hour=" + hour + ";");
  }

  private static void fromNowOn() {
    Checks.sentence("(If only HOURS go by, from now on:)");
    // What is asked of the hours ahead is what comes, if they go by.
    SongFields x = Checks.valley(Checks.LINE_OF_THREE.replace("owns 1 2;", "owns 1 2;sings hour/2+singer;fines far*2-hearers;"));
    x.load(0, 2, 3);
    x.hours(7);
    int[] purses = new int[3];
    int[] sung = new int[3];
    int[] by = new int[3];
    for (int s = 0; s < 3; s++) {
      purses[s] = x.purse(s, 20);
      sung[s] = x.sung(s, 21);
      by[s] = x.trespasses(s, 20, 0);
    }
    int ahead = x.count(4);
    x.hours(20);
    for (int s = 0; s < 3; s++) {
      Checks.is("purse of " + s, x.singer(s, 3), purses[s]);
      Checks.is("sung by " + s, x.sung(s, 1), sung[s]);
    }
    Checks.is("trespasses of all", x.count(4) - ahead, by[0] + by[1] + by[2]);
  }

  private static void sung() {
    Checks.sentence("SUNG: which TUNE a SINGER SINGS in the k-th HOUR from now (1 to 60); none: silent.");
    SongFields x = only("59");
    for (int k = 1; k <= 60; k++) {
      Checks.is("sung " + k, x.sung(0, k), k == 60 ? 1 : 0);
    }
    Checks.is("silent never", x.sung(1, 1), 0);
    Checks.illegal("0", () -> x.sung(0, 0));
    Checks.illegal("61", () -> x.sung(0, 61));
    Checks.noSuch("no singer", () -> x.sung(2, 1));
    Checks.noSuch("ahead of 61", () -> x.sung(2, 61));
    x.hours(1);
    Checks.is("from now", x.sung(0, 59), 1);
    Checks.is("and on", x.sung(0, 60), 0);
    Checks.is("NONE", Checks.valley(FIELD.repeat(2) + "singer 0;sings 1;").sung(0, 60), -1);
  }

  private static void learnt() {
    Checks.sentence("LEARNT: behind how many HOURS (0 to 60) a SINGER KNOWS a TUNE; none.");
    Checks.is("now", only("0").learnt(0, 1), 0);
    Checks.is("1", only("0").learnt(1, 1), 1);
    Checks.is("2", only("1").learnt(1, 1), 2);
    Checks.is("59", only("58").learnt(1, 1), 59);
    Checks.is("60", only("59").learnt(1, 1), 60);
    Checks.is("61", only("60").learnt(1, 1), -1);
    SongFields x = only("60");
    x.hours(1);
    Checks.is("from now", x.learnt(1, 1), 60);
    x.teach(1, 1);
    Checks.is("taught", x.learnt(1, 1), 0);
    Checks.noSuch("no singer", () -> x.learnt(2, 1));
    Checks.noSuch("no field", () -> x.learnt(1, 2));
  }

  private static void purses() {
    Checks.sentence("PURSE of a SINGER behind so many HOURS (0 to 60).");
    SongFields x = Checks.valley(PAYS);
    for (int h = 0; h <= 60; h++) {
      Checks.is("behind " + h, x.purse(0, h), -h);
      Checks.is("the owner's", x.purse(1, h), h);
    }
    Checks.illegal("-1", () -> x.purse(0, -1));
    Checks.illegal("61", () -> x.purse(0, 61));
    Checks.noSuch("ahead of 61", () -> x.purse(2, 61));
    x.hours(30);
    Checks.is("behind none it is that of now", x.purse(0, 0), -30);
  }

  private static void trespasses() {
    Checks.sentence("TRESPASSES in so many HOURS (0 to 60): by one; on TUNES of FIELDS of one.");
    SongFields x = Checks.valley(PAYS);
    x.hours(5);
    for (int h = 0; h <= 60; h++) {
      Checks.is("by 0 in " + h, x.trespasses(0, h, 0), h);
      Checks.is("on 1's in " + h, x.trespasses(1, h, 1), h);
    }
    Checks.is("by 1", x.trespasses(1, 60, 0), 0);
    Checks.is("on 0's", x.trespasses(0, 60, 1), 0);
    Checks.illegal("-1", () -> x.trespasses(0, -1, 0));
    Checks.illegal("61", () -> x.trespasses(0, 61, 1));
    Checks.noSuch("what 2", () -> x.trespasses(0, 60, 2));
    Checks.noSuch("what -1", () -> x.trespasses(0, 60, -1));
    Checks.noSuch("what ahead of 61", () -> x.trespasses(0, 61, 2));
    Checks.noSuch("no singer", () -> x.trespasses(2, 60, 0));
    // A fine of 0 is a trespass, earth makes it none.
    SongFields free = Checks.valley(PAYS.replace("fines 1", "fines 0"));
    Checks.is("of 0", free.trespasses(0, 60, 0), 60);
    free.load(0, 1, 9);
    Checks.is("with earth", free.trespasses(0, 60, 0), 51);
    Checks.is("with earth", free.trespasses(0, 9, 0), 0);
    Checks.is("one more", free.trespasses(0, 10, 0), 1);
  }

  private static void onesNow() {
    Checks.sentence("by a SINGER (what 0), on FIELDS that are one's now (1).");
    // On the first field and on the last, by the first singer and by the last.
    String ends = FIELD.repeat(8) + "singer 1;" + "singer 2;".repeat(4) + "singer 6;knows 0 7;knows 5 0;owns 0 0;owns 5 7;sings (singer=0)*7;";
    Checks.is("by the first", Checks.valley(ends).trespasses(0, 9, 0), 9);
    Checks.is("by the last", Checks.valley(ends).trespasses(5, 9, 0), 9);
    Checks.is("on the first's", Checks.valley(ends).trespasses(0, 9, 1), 9);
    Checks.is("on the last's", Checks.valley(ends).trespasses(5, 9, 1), 9);
    Checks.is("on another's", Checks.valley(ends).trespasses(1, 9, 1), 0);
    SongFields x = Checks.valley(PAYS);
    x.hours(10);
    x.sell(1, -1);
    Checks.is("sold", x.trespasses(1, 10, 1), 0);
    Checks.is("by nobody then", x.trespasses(0, 10, 0), 0);
    x.sell(1, 1);
    Checks.is("bought back", x.trespasses(1, 10, 1), 10);
    SongFields two = Checks.valley("field 1 1 1;field 1 2 2;field 1 3 3;singer 0;singer 0;singer 0;owns 2 1;owns 1 2;knows 0 1;knows 1 2;sings singer+1;");
    Checks.is("on 1's field 2 by nobody else", two.trespasses(1, 10, 1), 0);
    Checks.is("on 2's field 1", two.trespasses(2, 10, 1), 10);
    two.sell(2, 2);
    Checks.is("on both of 2's", two.trespasses(2, 10, 1), 20);
  }

  private static void allKnow() {
    Checks.sentence("ALL KNOW: behind how many HOURS (0 to 60) all SINGERS KNOW a TUNE; none.");
    Checks.is("now", only("0").allKnow(0), 0);
    Checks.is("1", only("0").allKnow(1), 1);
    Checks.is("59", only("58").allKnow(1), 59);
    Checks.is("60", only("59").allKnow(1), 60);
    Checks.is("61", only("60").allKnow(1), -1);
    SongFields x = only("60");
    x.hours(1);
    Checks.is("from now", x.allKnow(1), 60);
    Checks.noSuch("no field", () -> x.allKnow(2));
    Checks.noSuch("below", () -> x.allKnow(-1));
    // The last of six counts as the first does.
    String six = FIELD.repeat(2) + "singer 0;singer 0;singer 0;singer 0;singer 0;singer 0 1;knows 0 1;sings 1;";
    Checks.is("all six", Checks.valley(six).allKnow(1), 1);
    Checks.is("but the last", Checks.valley(six.replace("0 1;knows", "1 1 1 1 0;knows")).allKnow(0), -1);
    Checks.is("one alone", Checks.valley(FIELD.repeat(2) + "singer 1;").allKnow(1), 0);
    Checks.is("one alone, never", Checks.valley(FIELD.repeat(2) + "singer 1;").allKnow(0), -1);
    Checks.is("nobody at all", Checks.valley(FIELD).allKnow(0), 0);
  }

  private static void lost() {
    Checks.sentence("LOST without a SINGER: TUNES that one of the others KNOWS behind 30 HOURS, but none of them would, were that SINGER silent in all of these (bits).");
    Checks.is("in the first hour", only("0").lost(0), 2);
    Checks.is("in the 29th", only("28").lost(0), 2);
    Checks.is("in the 30th", only("29").lost(0), 2);
    Checks.is("in the 31st", only("30").lost(0), 0);
    SongFields x = only("30");
    x.hours(1);
    Checks.is("from now", x.lost(0), 2);
    x.hours(30);
    Checks.is("known by then", x.lost(0), 0);
    Checks.is("of who knows nothing else", only("0").lost(1), 0);
    Checks.is("of one alone", Checks.valley(FIELD).count(2), 0);
    Checks.is("of one alone", Checks.valley(FIELD + "singer 0;").lost(0), 0);
    Checks.noSuch("no singer", () -> x.lost(2));
    Checks.is("the first tune", Checks.valley(FIELD.repeat(2) + "singer 1;singer 1;knows 1 0;sings 0;").lost(1), 1);
    // All eight, of which the others know but their own.
    String all = FIELD.repeat(8) + "singer 0;singer 0;";
    for (int f = 1; f < 8; f++) {
      all += "knows 0 " + f + ";";
    }
    Checks.is("seven", Checks.valley(all + "sings hour;").lost(0), 254);
    // Who only hands on what another sings is not needed: the other one's tune reaches a third by it.
    String chain = FIELD.repeat(4) + "path 0 1 1;path 1 2 1;singer 0;singer 1;singer 2;knows 0 3;sings 3;";
    Checks.is("the first is needed", Checks.valley(chain).lost(0), 8);
    Checks.is("the middle one is not, as the first knows it", Checks.valley(chain).lost(1), 0);
  }

  private static void needed() {
    Checks.sentence("so as to make no TRESPASS by its TUNE in so many HOURS (1 to 60); none.");
    SongFields x = Checks.valley(PAYS);
    for (int h = 1; h <= 60; h++) {
      Checks.is("in " + h, x.needed(0, 1, h), h);
    }
    Checks.illegal("0", () -> x.needed(0, 1, 0));
    Checks.illegal("61", () -> x.needed(0, 1, 61));
    Checks.noSuch("no singer ahead of 61", () -> x.needed(2, 1, 61));
    Checks.noSuch("no field ahead of 0", () -> x.needed(0, 2, 0));
    Checks.is("of another field", x.needed(0, 0, 60), 0);
    Checks.is("the owner", x.needed(1, 1, 60), 0);
    Checks.sentence("(in place of what there is)");
    for (int i = 0; i < 11; i++) {
      x.load(0, 1, 9);
      Checks.is("whatever there is", x.needed(0, 1, 60), 60);
    }
    x.sell(1, -1);
    Checks.is("nobody's", x.needed(0, 1, 60), 0);
    x.sell(1, 0);
    Checks.is("one's own", x.needed(0, 1, 60), 0);
    x.sell(1, 1);
    x.change(0, 0, 1);
    Checks.is("where one is", x.needed(0, 1, 60), 0);
    SongFields half = Checks.valley(PAYS.replace("singer 0;", "singer 0 1;"));
    Checks.is("every other hour", half.needed(0, 1, 60), 30);
    Checks.is("of one hour", half.needed(0, 1, 1), 1);
    Checks.is("of two", half.needed(0, 1, 2), 1);
    Checks.is("of three", half.needed(0, 1, 3), 2);
  }

  /** What is needed, loaded in place of what there is, makes no trespass, and one less does. */
  private static void needIsTheLeast() {
    Checks.sentence("EARTH NEEDED: the least EARTH of a FIELD (0 to 99) that a SINGER must have in the BARROW now");
    String[] rules = {
      "sings hour;fines 1;", "sings hour+purse;fines far;", "sings purse+1;fines 3-purse/2;", "sings known+hour;fines hearers*5;",
      "sings (purse<0-20)+hour/3;fines 7;", "sings hour*hour+singer;fines notes;"
    };
    for (String rule : rules) {
      String text = "field 5 1 2;field 9 3 4;field 3 5 6;path 0 1 2;singer 0;singer 1 2;singer 2 0 1;"
          + "knows 0 1;knows 0 2;knows 1 0;owns 1 1;owns 2 2;owns 0 0;" + rule;
      for (int s = 0; s < 3; s++) {
        for (int f = 0; f < 3; f++) {
          for (int h = 1; h <= 25; h += 6) {
            int need = Checks.valley(text).needed(s, f, h);
            Checks.is("enough", byTune(text, s, f, h, need), 0);
            if (need > 0) {
              Checks.is("one less is too little", byTune(text, s, f, h, need - 1) > 0, true);
            }
          }
        }
      }
    }
  }

  /** Trespasses by a singer on a field's tune with so much earth of it, hour by hour. */
  private static int byTune(String text, int singer, int field, int hours, int earth) {
    SongFields x = Checks.valley(text);
    for (int left = earth; left > 0; left -= 9) {
      x.load(singer, field, Math.min(9, left));
    }
    int many = 0;
    for (int h = 0; h < hours; h++) {
      if (x.sung(singer, 1) == field) {
        many += x.trespasses(singer, 1, 0);
      }
      x.hours(1);
    }
    return many;
  }

  private static void thirds() {
    Checks.sentence("a TUNE is a third lower than another one, if it has as many NOTES, and each is that one's less 2 (MOD 10).");
    for (int n = 0; n < 10; n++) {
      int low = (n + 8) % 10;
      SongFields x = Checks.valley("field 1 " + n + " 5;field 1 " + low + " 3;field 1 " + low + " 5;field 1 " + n + " 3;");
      Checks.is("third of " + n, x.field(0, 4), 2);
      Checks.is("not the other way", x.field(1, 4) & 1, 0);
    }
    SongFields y = Checks.valley("field 1 2 2 2 2 2 2;field 1 0 0 0 0 0 0;field 1 0 0 0 0 0;field 1 0 0 0 0 0 1;field 1 1 0 0 0 0 0;field 1 2 2 2 2 2;");
    Checks.is("all six notes, and as many", y.field(0, 4), 2);
    Checks.is("of five", y.field(5, 4), 4);
    Checks.is("none of itself", Checks.valley(FIELD).field(0, 4), 0);
    Checks.sentence("THIRDS of a TUNE: TUNES that are a third lower than it (bits).");
    Checks.is("the first and the last", Checks.valley("field 1 9 9;" + FIELD.repeat(6) + "field 1 9 9;").field(3, 4), 129);
    SongFields all = Checks.valley("field 1 1 1;" + "field 1 9 9;".repeat(7));
    Checks.is("seven", all.field(0, 4), 254);
    Checks.is("of those none", all.field(7, 4), 0);
  }

  private static void common() {
    Checks.sentence("COMMON: the longest row of NOTES that two TUNES have in this order (others may be between): how long.");
    SongFields x = Checks.valley("field 1 1 2 3 4 5 6;field 1 1 2;field 1 5 6;field 1 1 6;field 1 6 1;field 1 7 8;field 1 6 5 4 3 2 1;field 1 1 1;");
    int[] due = {6, 2, 2, 2, 1, 0, 1, 1};
    for (int f = 0; f < 8; f++) {
      Checks.is("0 and " + f, x.common(0, f), due[f]);
      Checks.is(f + " and 0", x.common(f, 0), due[f]);
    }
    Checks.sentence("COMMON (of one and itself: all).");
    Checks.is("all six", x.common(6, 6), 6);
    Checks.is("all two", x.common(7, 7), 2);
    Checks.is("six alike", Checks.valley("field 1 1 1 1 1 1 1;field 1 1 1 1;").common(0, 1), 3);
    Checks.noSuch("no field", () -> x.common(8, 0));
    Checks.noSuch("no other", () -> x.common(0, 8));
    Checks.noSuch("below", () -> x.common(0, -1));
  }

  private static void nearest() {
    Checks.sentence("NEAREST: the couple of FIELDS (the lesser first) whose TUNES have most in COMMON (of like ones the first); none with fewer than two.");
    Checks.is("of none", new SongFields().nearest(), -1);
    Checks.is("of one", Checks.valley(FIELD).nearest(), -1);
    Checks.is("of two", Checks.valley(FIELD.repeat(2)).nearest(), 1);
    Checks.is("of two with nothing in common", Checks.valley("field 1 1 1;field 1 2 2;").nearest(), 1);
    Checks.is("of eight alike", Checks.valley(FIELD.repeat(8)).nearest(), 1);
    Checks.is("the last two", Checks.valley(FIELD.repeat(6) + "field 1 2 3 4;field 1 2 3 4;").nearest(), 67);
    Checks.is("the first and the last", Checks.valley("field 1 7 8 9;" + FIELD.repeat(6) + "field 1 7 8 9;").nearest(), 7);
    Checks.is("of like ones the first", Checks.valley("field 1 1 2;field 1 3 4;field 1 3 4;field 1 1 2;").nearest(), 3);
    Checks.is("of like ones the first", Checks.valley("field 1 9 9;field 1 3 4;field 1 5 6;field 1 5 6;field 1 3 4;").nearest(), 14);
  }

  private static void far() {
    Checks.sentence("FAR: STEPS of the shortest way by PATHS; none.");
    SongFields x = Checks.valley(FIELD.repeat(3) + "path 0 1 20;");
    Checks.is("itself", x.far(0, 0), 0);
    Checks.is("a path", x.far(0, 1), 20);
    Checks.is("back", x.far(1, 0), 20);
    Checks.is("none", x.far(0, 2), -1);
    Checks.is("alone", x.far(2, 2), 0);
    Checks.is("like ones", Checks.valley(FIELD.repeat(3) + "path 0 1 10;path 1 2 10;path 0 2 20;").far(0, 2), 20);
    Checks.is("one less", Checks.valley(FIELD.repeat(3) + "path 0 1 10;path 1 2 9;path 0 2 20;").far(0, 2), 19);
    Checks.is("one more", Checks.valley(FIELD.repeat(3) + "path 0 1 10;path 1 2 11;path 0 2 20;").far(0, 2), 20);
    Checks.noSuch("no field", () -> x.far(3, 0));
    Checks.noSuch("no other", () -> x.far(0, 3));
    // The shortest way may lead by any field, the first and the last as well.
    for (int by = 0; by < 8; by++) {
      StringBuilder star = new StringBuilder(FIELD.repeat(8));
      for (int f = 0; f < 8; f++) {
        star.append(f == by ? "" : "path " + by + " " + f + " " + (f + 1) + ";");
      }
      SongFields s = Checks.valley(star.toString());
      int one = by == 2 ? 3 : 2;
      int other = by == 6 ? 5 : 6;
      Checks.is("by " + by, s.far(one, other), one + other + 2);
    }
    // The longest that there is: eight in a row.
    String row = FIELD.repeat(8);
    for (int f = 0; f < 7; f++) {
      row += "path " + f + " " + (f + 1) + " 20;";
    }
    Checks.is("140", Checks.valley(row).far(7, 0), 140);
  }

  private static void rounds() {
    Checks.sentence("A ROUND from a FIELD: STEPS of the shortest way through all FIELDS and back; none.");
    Checks.is("one", Checks.valley(FIELD).round(0), 0);
    Checks.is("two", Checks.valley(FIELD.repeat(2) + "path 0 1 20;").round(1), 40);
    Checks.is("two apart", Checks.valley(FIELD.repeat(2)).round(0), -1);
    Checks.is("one of eight apart", Checks.valley(FIELD.repeat(8) + "path 0 1 1;path 1 2 1;path 2 3 1;path 3 4 1;path 4 5 1;path 5 6 1;").round(0), -1);
    String row = FIELD.repeat(8);
    for (int f = 0; f < 7; f++) {
      row += "path " + f + " " + (f + 1) + " 20;";
    }
    for (int f = 0; f < 8; f++) {
      Checks.is("there and back", Checks.valley(row).round(f), 280);
    }
    Checks.is("a ring", Checks.valley(row + "path 7 0 20;").round(3), 160);
    Checks.noSuch("no field", () -> Checks.valley(FIELD).round(1));
    Checks.noSuch("none at all", () -> new SongFields().round(0));
  }

  private static String someFields(Random random, int fields) {
    StringBuilder all = new StringBuilder();
    for (int f = 0; f < fields; f++) {
      all.append("field ").append(1 + random.nextInt(99)).append(" 1 1;");
    }
    int paths = 0;
    for (int a = 0; a < fields; a++) {
      for (int b = a + 1; b < fields; b++) {
        if (paths < 14 && random.nextInt(fields) < 4) {
          all.append("path ").append(a).append(' ').append(b).append(' ').append(1 + random.nextInt(20)).append(';');
          paths++;
        }
      }
    }
    return all.toString();
  }

  /** The least over all orders, by how far each is of each: -1 without. */
  private static int leastOrder(int[][] far, int home, int at, int left, int sofar) {
    if (left == 0) {
      return far[at][home] < 0 ? -1 : sofar + far[at][home];
    }
    int least = -1;
    for (int f = 0; f < far.length; f++) {
      if ((left >> f & 1) != 0 && far[at][f] >= 0) {
        int all = leastOrder(far, home, f, left & ~(1 << f), sofar + far[at][f]);
        least = all >= 0 && (least < 0 || all < least) ? all : least;
      }
    }
    return least;
  }

  private static void roundsByAllOrders() {
    Random random = new Random(27);
    for (int i = 0; i < 60; i++) {
      int fields = 1 + random.nextInt(6);
      SongFields x = Checks.valley(someFields(random, fields));
      int home = random.nextInt(fields);
      int[][] far = new int[fields][fields];
      for (int f = 0; f < fields * fields; f++) {
        far[f / fields][f % fields] = x.far(f / fields, f % fields);
      }
      Checks.is("round", x.round(home), leastOrder(far, home, home, (1 << fields) - 1 & ~(1 << home), 0));
    }
  }

  private static void weddings() {
    Checks.sentence("A WEDDING: the FIELD to which all SINGERS come from where they are in this HOUR with fewest STEPS, all together (of like ones the least); how many; none.");
    wedding("one", FIELD + "singer 0;", 0, 0);
    wedding("none needs to go", FIELD.repeat(3) + "singer 2;singer 2;", 2, 0);
    wedding("apart", FIELD.repeat(2) + "singer 0;singer 1;", -1, -1);
    wedding("of like ones the least", FIELD.repeat(2) + "path 0 1 7;singer 1;singer 0;", 0, 7);
    wedding("the greater is nearer", FIELD.repeat(2) + "path 0 1 7;singer 1;singer 0;singer 1;", 1, 7);
    wedding("between", FIELD.repeat(3) + "path 0 2 7;path 2 1 8;singer 1;singer 0;singer 2;", 2, 15);
    wedding("some apart, but not those", FIELD.repeat(4) + "path 2 3 5;singer 3;singer 2;", 2, 5);
    wedding("one apart", FIELD.repeat(3) + "path 0 1 5;singer 0;singer 1;singer 2;", -1, -1);
    String row = FIELD.repeat(8);
    for (int f = 0; f < 7; f++) {
      row += "path " + f + " " + (f + 1) + " 20;";
    }
    wedding("six, three at each end", row + "singer 7;".repeat(3) + "singer 0;".repeat(3), 0, 420);
    wedding("six at the end", row + "singer 7;".repeat(6), 7, 0);
    SongFields moves = Checks.valley(FIELD.repeat(2) + "path 0 1 7;singer 0 1;");
    Checks.is("now", moves.wedding(0), 0);
    moves.hours(1);
    Checks.is("in this hour", moves.wedding(0), 1);
    Checks.sentence("A WEDDING: the FIELD (what 0), how many STEPS (1); NONE: none, no FIELDS.");
    Checks.is("no fields", new SongFields().wedding(0), -1);
    Checks.is("no fields", new SongFields().wedding(1), -1);
    wedding("nobody", FIELD.repeat(3), 0, 0);
  }

  private static void wedding(String what, String text, int where, int steps) {
    SongFields x = Checks.valley(text);
    Checks.is(what + ": where", x.wedding(0), where);
    Checks.is(what + ": steps", x.wedding(1), steps);
    Checks.noSuch(what + ": 2", () -> x.wedding(2));
    Checks.noSuch(what + ": -1", () -> x.wedding(-1));
  }

  private static void heirs() {
    Checks.sentence("HEIRS: FIELDS to so many (1 to 4), so that the most ACRES that one has are fewest: how many.");
    SongFields x = Checks.valley("field 99 1 1;".repeat(8));
    int[] due = {0, 792, 396, 297, 198};
    for (int many = 1; many <= 4; many++) {
      Checks.is("heirs " + many, x.heirs(many), due[many]);
    }
    Checks.illegal("0", () -> x.heirs(0));
    Checks.illegal("5", () -> x.heirs(5));
    for (int many = 1; many <= 4; many++) {
      Checks.is("of one field", Checks.valley("field 7 1 1;").heirs(many), 7);
      Checks.is("without fields", new SongFields().heirs(many), 0);
    }
    Checks.is("as many as fields", Checks.valley("field 7 1 1;field 8 1 1;field 9 1 1;").heirs(3), 9);
    Checks.is("more than fields", Checks.valley("field 7 1 1;field 8 1 1;field 9 1 1;").heirs(4), 9);
    Checks.is("fewer than fields", Checks.valley("field 7 1 1;field 8 1 1;field 9 1 1;").heirs(2), 15);
  }

  private static void heirsByAllWays() {
    Random random = new Random(29);
    for (int i = 0; i < 40; i++) {
      int fields = 1 + random.nextInt(7);
      SongFields x = Checks.valley(someFields(random, fields));
      int[] acres = new int[fields];
      for (int f = 0; f < fields; f++) {
        acres[f] = x.field(f, 0);
      }
      for (int many = 1; many <= 4; many++) {
        int ways = 1;
        for (int f = 0; f < fields; f++) {
          ways *= many;
        }
        int least = Integer.MAX_VALUE;
        for (int w = 0; w < ways; w++) {
          int[] has = new int[many];
          int most = 0;
          for (int f = 0, rest = w; f < fields; f++, rest /= many) {
            has[rest % many] += acres[f];
            most = Math.max(most, has[rest % many]);
          }
          least = Math.min(least, most);
        }
        Checks.is("heirs", x.heirs(many), least);
      }
    }
  }
}
