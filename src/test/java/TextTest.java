/** Promises 1 to 4: a new object, the tape, the text and its faults. */
public final class TextTest {
  private static final String FIELDS_8 = "field 1 1 1;".repeat(8);

  public static void main(String[] args) {
    newObject();
    tape();
    valleys();
    whatStaysAndGoes();
    oneBehindAnother();
    tokens();
    lines();
    tooMuch();
    phrases();
    notToldAhead();
    twice();
    ranksOfRules();
    Checks.end("TextTest");
  }

  private static void newObject() {
    SongFields x = new SongFields();
    for (int what = 0; what <= 10; what++) {
      Checks.is("new count " + what, x.count(what), 0);
    }
    Checks.is("new fault", x.fault(), -1);
    Checks.noSuch("new field", () -> x.field(0, 0));
    Checks.noSuch("new singer", () -> x.singer(0, 0));
    Checks.is("NONE", SongFields.NONE, -1);
  }

  private static void tape() {
    SongFields x = new SongFields();
    Checks.is("first feed", x.feed(0, 0, 0, 0, 0), 20);
    for (int i = 2; i <= 35; i++) {
      Checks.is("feed " + i, x.feed(0x20202020, 0x0a0a0a0a, 0x20202020, -1, 0), 20 * i);
    }
    Checks.is("feed 36", x.feed(1, 2, 3, 4, 5), -1);
    Checks.is("the tape", x.count(7), 700);
    Checks.illegal("more than the tape", () -> x.valley(701));
    Checks.illegal("below 0", () -> x.valley(-1));
    Checks.is("tape stays", x.count(7), 700);
    Checks.is("no fault", x.fault(), -1);
    Checks.is("a byte 0", x.valley(700), 1);
    Checks.is("its place", x.fault(), 0);
    Checks.is("the tape is empty", x.count(7), 0);
    // The highest byte comes first.
    x.feed(('f' << 24) | ('i' << 16) | ('e' << 8) | 'l', ('d' << 24) | ('7' << 16) | (' ' << 8) | '1',
        (' ' << 24) | ('2' << 16) | (';' << 8) | 0xff, 0, 0);
    Checks.is("11 bytes", x.valley(11), 0);
    Checks.is("acres", x.field(0, 0), 7);
    Checks.is("note", x.note(0, 1), 2);
  }

  private static void valleys() {
    SongFields x = Checks.valley(Checks.LINE_OF_THREE);
    Checks.is("fields", x.count(0), 3);
    Checks.is("paths", x.count(1), 2);
    Checks.is("singers", x.count(2), 3);
    Checks.is("nothing at all", x.valley(0), 0);
    Checks.is("no fields", x.count(0), 0);
    Checks.is("no singers", x.count(2), 0);
    // A full text: 8 fields, 14 paths, 6 singers, ways of 6, tunes of 6.
    StringBuilder full = new StringBuilder();
    for (int f = 0; f < 8; f++) {
      full.append("field 99 0 1 2 3 4 ").append(f).append(';');
    }
    int paths = 0;
    for (int a = 0; a < 8; a++) {
      for (int b = a + 1; b < 8 && paths < 14; b++) {
        full.append("path ").append(a).append(b < 4 ? ' ' : '\n').append(b).append(" 20;");
        paths++;
      }
    }
    full.append("singer 7 6 5 4 3 2;".repeat(6));
    Checks.is("a full one", Checks.tell(x, full.toString()), 0);
    Checks.is("8 fields", x.count(0), 8);
    Checks.is("14 paths", x.count(1), 14);
    Checks.is("6 singers", x.count(2), 6);
    Checks.is("6 notes", x.field(7, 1), 6);
    Checks.is("way of 6", x.singer(5, 0), 6);
  }

  private static void whatStaysAndGoes() {
    SongFields x = Checks.valley(Checks.LINE_OF_THREE);
    x.hours(3);
    x.hear(0, 1, 0);
    x.hear(0, 99, 0);
    x.hours(0);
    x.image();
    Checks.is("a fault", Checks.tell(x, "field 1 1 1;y"), 1);
    Checks.is("its place", x.fault(), 12);
    Checks.is("the fields stay", x.count(0), 3);
    Checks.is("the hour stays", x.count(3), 3);
    Checks.is("the act stays", x.count(5), 1);
    Checks.is("the heard stays", x.count(6), 1);
    Checks.is("texts", x.count(8), 1);
    Checks.is("acts", x.count(9), 1);
    Checks.is("heard", x.count(10), 1);
    Checks.illegal("no bytes any more", () -> x.valley(1));
    Checks.is("the place stays", x.fault(), 12);
    Checks.is("the image stays", x.restore(), true);
    Checks.is("as many texts as then", x.count(8), 0);
    Checks.is("a new one", Checks.tell(x, "field 1 1 1;singer 0;"), 0);
    Checks.is("no fault", x.fault(), -1);
    Checks.is("hour 0", x.count(3), 0);
    Checks.is("no acts", x.count(5), 0);
    Checks.is("nothing heard", x.count(6), 0);
    Checks.is("no image", x.restore(), false);
    Checks.is("nothing to undo", x.undo(), -1);
    Checks.is("refused acts stay", x.count(9), 1);
    Checks.is("refused heard stays", x.count(10), 1);
    // The rules of the text ahead are gone too.
    SongFields y = Checks.valley(Checks.TWO_WITH_RULES);
    Checks.is("another", Checks.tell(y, "field 5 1 2;field 9 3 4;path 0 1 6;singer 0;singer 1;knows 0 1;"), 0);
    Checks.is("sings where one is", y.singer(0, 5), 0);
    Checks.is("nobody's", y.field(1, 2), -1);
    Checks.is("rules may be told again", Checks.tell(y, Checks.TWO_WITH_RULES), 0);
    Checks.is("sings the next", y.singer(0, 5), 1);
  }

  /** Nothing of a text with a fault is left for the next one, and no byte behind its end counts. */
  private static void oneBehindAnother() {
    SongFields x = new SongFields();
    Checks.is("a test that waits", Checks.tell(x, "sings 1<@;"), 1);
    Checks.is("is gone", Checks.tell(x, "sings 1<2;"), 0);
    Checks.is("a parenthesis that is open", Checks.tell(x, "sings (@;"), 1);
    Checks.is("is gone", Checks.tell(x, "sings 1);"), 1);
    Checks.is("its place", x.fault(), 7);
    Checks.is("six of them", Checks.tell(x, "sings ((((((1;"), 2);
    Checks.is("are gone", Checks.tell(x, "sings (1);"), 0);
    Checks.is("fields of a fault", Checks.tell(x, "field 1 1 1;field 1 1 1;path 0 1 1;singer 0;owns 0 0;fines 1;@"), 1);
    Checks.is("are gone", Checks.tell(x, "field 1 1 1;field 1 1 1;path 0 1 1;singer 0;owns 0 0;fines 1;"), 0);
    Checks.feed(x, "field 1 1 12;");
    Checks.is("cut in a number", x.valley(11), 1);
    Checks.is("at the text's length", x.fault(), 11);
    Checks.feed(x, "field 1 1 12;");
    Checks.is("cut ahead of the end", x.valley(10), 1);
    Checks.is("at the text's length", x.fault(), 10);
    Checks.feed(x, "sings hour;");
    Checks.is("cut in a word", x.valley(8), 3);
    Checks.is("at the word", x.fault(), 6);
    Checks.feed(x, "sings hour;");
    Checks.is("cut behind it", x.valley(10), 1);
    Checks.is("at the text's length", x.fault(), 10);
  }

  private static void fault(String text, int kind, int place) {
    Checks.fault(text, kind, place);
  }

  private static void tokens() {
    fault("field1 2 3;", 0, 0);
    fault("field 01 0002 3;", 0, 0);
    fault("  field\n1 2 3\n;\n ", 0, 0);
    fault("field\t1 2 3;", 1, 5);
    fault("field\r1 2 3;", 1, 5);
    fault("Field 1 2 3;", 1, 0);
    fault("fields 1 2 3;", 1, 0);
    fault("fiel d 1 2 3;", 1, 0);
    fault("field 1 2 3,", 1, 11);
    fault("field 1 2 \u00e9;", 1, 10);
    fault("field 1 2 3 ", 1, 12);
    fault("field 1 2 3  \n", 1, 14);
    fault("field", 1, 5);
    fault(";", 1, 0);
    fault("1", 1, 0);
    fault("12345", 1, 0);
    fault("@", 1, 0);
    fault("field 1 1 1;;", 1, 12);
    fault("hour 1;", 1, 0);
  }

  private static void lines() {
    fault("gield 1 1 1;", 1, 0);
    fault("fiele 1 1 1;", 1, 0);
    fault("field 1 1;", 1, 9);
    fault("field ;", 1, 6);
    fault("field x 1 1;", 1, 6);
    fault("field 1 1 1 x;", 1, 12);
    fault("field 1 1 1 (", 1, 12);
    fault("field 1 1 1;path 0 0", 4, 19);
    fault("field 1 1 1;field 1 1 1;path 0 1;", 1, 32);
    fault("field 1 1 1;field 1 1 1;path 0 1 1 1;", 1, 35);
    fault("field 1 1 1;singer;", 1, 18);
    fault("field 1 1 1;singer 0 x;", 1, 21);
    fault("field 1 1 1;singer 0;knows 0;", 1, 28);
    fault("field 1 1 1;singer 0;owns 0 0 0;", 1, 30);
    fault("field 1 1 1;singer 0;owns 0 0;", 0, 0);
    fault("sings;", 1, 5);
    fault("sings 1", 1, 7);
    fault("sings 1;fines 1;", 0, 0);
  }

  private static void tooMuch() {
    fault("field 0 1 1;", 2, 6);
    fault("field 100 1 1;", 2, 6);
    fault("field 99 0 9;", 0, 0);
    fault("field 00001 1 1;", 2, 6);
    fault("field 1 10 1;", 2, 8);
    fault("field 1 1 12345;", 2, 10);
    fault("field 1 1 2 3 4 5 6;", 0, 0);
    fault("field 1 1 2 3 4 5 6 7;", 2, 20);
    fault("field 1 1 2 3 4 5 6 x;", 1, 20);
    fault("field 1 1 2 3 4 5 66 7;", 2, 18);
    fault(FIELDS_8, 0, 0);
    fault(FIELDS_8 + "field 1 1 1;", 2, 96);
    fault(FIELDS_8 + "field", 2, 96);
    fault("field 1 1 1;field 1 1 1;path 0 1 0;", 2, 33);
    fault("field 1 1 1;field 1 1 1;path 0 1 20;", 0, 0);
    fault("field 1 1 1;field 1 1 1;path 0 1 21;", 2, 33);
    fault("field 1 1 1;field 1 1 1;path 00000 1 21;", 2, 29);
    StringBuilder paths = new StringBuilder(FIELDS_8);
    for (int b = 1; b < 8; b++) {
      paths.append("path 0 ").append(b).append(" 1;");
    }
    for (int b = 2; b < 8; b++) {
      paths.append("path 1 ").append(b).append(" 1;");
    }
    paths.append("path 2 3 1;");
    fault(paths.toString(), 0, 0);
    fault(paths + "path 0 1 1;", 2, paths.length());
    fault("field 1 1 1;" + "singer 0;".repeat(6), 0, 0);
    fault("field 1 1 1;" + "singer 0;".repeat(7), 2, 66);
    fault("field 1 1 1;singer 0 0 0 0 0 0;", 0, 0);
    fault("field 1 1 1;singer 0 0 0 0 0 0 0;", 2, 31);
    fault("field 1 1 1;singer 0 0 0 0 0 0 9;", 2, 31);
    fault("field 1 1 1;singer 12345;", 2, 19);
    fault("field 1 1 1;singer 0;knows 0 12345;", 2, 29);
  }

  private static void phrases() {
    fault("sings hour+singer*field-known/purse;", 0, 0);
    fault("fines far+acres*notes-hearers/purse;", 0, 0);
    fault("sings 9999;", 0, 0);
    fault("sings 10000;", 2, 6);
    fault("sings 1 2;", 1, 8);
    fault("sings 1 hour;", 1, 8);
    fault("sings 1 not;", 1, 8);
    fault("sings 1 12345;", 1, 8);
    fault("sings 1<2<3;", 1, 9);
    fault("sings 1=2<3;", 1, 9);
    fault("sings 1+1<2*2=3;", 1, 13);
    fault("sings (1<2)<3;", 0, 0);
    fault("sings 1<(2=3);", 0, 0);
    fault("sings 1<2 and 2<3 or 3=4;", 0, 0);
    fault("sings not 1<2<3;", 1, 13);
    fault("sings ();", 1, 7);
    fault("sings (1;", 1, 8);
    fault("sings 1);", 1, 7);
    fault("sings +1;", 1, 6);
    fault("sings 1+;", 1, 8);
    fault("sings 1+*2;", 1, 8);
    fault("sings (1+2", 1, 10);
    fault("sings 1+", 1, 8);
    fault("sings 1 @;", 1, 8);
    fault("sings 1 + @;", 1, 10);
    fault("sings (((((1)))));", 0, 0);
    fault("sings ((((((1))))));", 2, 12);
    fault("sings ((((((hour))))));", 2, 12);
    fault("sings ((((((xyz))))));", 2, 12);
    fault("sings ((((((or", 2, 12);
    fault("sings ((((((not", 2, 12);
    fault("sings ((((((12345", 2, 12);
    fault("sings (((((((1))))))));", 2, 12);
    fault("sings (((((()", 1, 12);
    fault("sings ((((((", 1, 12);
    fault("sings ((((((+", 1, 12);
    fault("sings (((((1)))))+(((((2)))));", 0, 0);
    fault("sings not not not not not not 1;", 0, 0);
    fault("sings not not not not not not not 1;", 2, 30);
    fault("sings not not not not not not (not 1);", 0, 0);
    fault("sings not not not not and;", 3, 22);
    fault("sings not not not 1 and not not not not not not 1;", 0, 0);
    fault("sings 1 or not not not not not not not 1;", 2, 35);
    // As much as a text can hold.
    fault("sings " + "1+".repeat(346) + "1;", 0, 0);
  }

  private static void notToldAhead() {
    fault("sings far;", 3, 6);
    fault("sings x;", 3, 6);
    fault("sings a;", 3, 6);
    fault("sings z;", 3, 6);
    fault("sings `;", 1, 6);
    fault("sings {;", 1, 6);
    fault("sings :;", 1, 6);
    fault("sings or;", 3, 6);
    fault("sings 1+not 1;", 3, 8);
    fault("sings 1<not 1;", 3, 8);
    fault("sings 1*field;", 0, 0);
    fault("fines field;", 3, 6);
    fault("fines hour;", 3, 6);
    fault("fines 1+(hearer);", 3, 9);
    fault("path 0 1 1;", 3, 5);
    fault("field 1 1 1;path 0 1 1;", 3, 19);
    fault("field 1 1 1;path 9999 1 1;", 3, 17);
    fault("singer 0;", 3, 7);
    fault("field 1 1 1;singer 0 1;", 3, 21);
    fault("field 1 1 1;knows 0 0;", 3, 18);
    fault("field 1 1 1;singer 0;knows 1 0;", 3, 27);
    fault("field 1 1 1;singer 0;knows 0 1;", 3, 29);
    fault("field 1 1 1;owns 0 0;", 3, 17);
    fault("field 1 1 1;singer 0;owns 0 8;", 3, 28);
  }

  private static void twice() {
    String two = "field 1 1 1;field 1 1 1;";
    fault(two + "path 1 1 1;", 4, 31);
    fault(two + "path 0 1 1;path 0 1 2;", 4, 42);
    fault(two + "path 0 1 1;path 1 0 2;", 4, 42);
    fault(two + "singer 1 0;knows 0 1;", 4, 43);
    fault(two + "singer 1 0;knows 0 0;", 0, 0);
    fault(two + "singer 1 0;knows 0 0;knows 0 0;", 4, 53);
    fault(two + "singer 1;singer 1;owns 0 1;owns 1 1;", 4, 58);
    fault(two + "singer 1;singer 1;owns 0 1;owns 0 1;", 4, 58);
    fault(two + "singer 1;singer 1;owns 0 1;owns 1 0;", 0, 0);
    fault("sings 1;sings 1;", 5, 8);
    fault("sings 1;fines 1;sings", 5, 16);
    fault("fines 1;sings 1;fines x;", 5, 16);
  }

  /** What a rule gives, by the tune that is sung of eight, all of which are known. */
  private static void sings(String phrase, int due) {
    StringBuilder text = new StringBuilder(FIELDS_8).append("singer 5 3;");
    for (int f = 0; f < 8; f++) {
      text.append(f == 5 ? "" : "knows 0 " + f + ";");
    }
    SongFields x = Checks.valley(text + "sings " + phrase + ";");
    Checks.is(phrase, x.singer(0, 5), Math.floorMod(due, 8));
  }

  private static void ranksOfRules() {
    sings("2+3*2", 0);
    sings("(2+3)*2", 2);
    sings("7-2-1", 4);
    sings("7-(2-1)", 6);
    sings("7/2*2", 6);
    sings("7/0+3", 3);
    sings("7/(3-3)", 0);
    sings("0-7/2", 5);
    sings("(0-7)/2", -3);
    sings("0-1", 7);
    sings("0-8", 0);
    sings("1<2", 1);
    sings("2<2", 0);
    sings("2=2", 1);
    sings("2=3", 0);
    sings("5 and 3", 1);
    sings("1 and 3", 1);
    sings("3 and 1", 1);
    sings("2 or 0", 1);
    sings("(2 or 0)+5", 6);
    sings("(2 and 3)+5", 6);
    sings("(not 0)+5", 6);
    sings("5-(2<3)", 4);
    sings("5 and 0", 0);
    sings("0 or 3", 1);
    sings("0 or 0", 0);
    sings("1 or 0 and 0", 1);
    sings("(1 or 0) and 0", 0);
    sings("not 0 and 0", 0);
    sings("not (0 and 0)", 1);
    sings("not 5", 0);
    sings("not not 5", 1);
    sings("not 1<0", 1);
    sings("not 1 = 0", 1);
    sings("3+(not 0)", 4);
    sings("3 + 2 < 5 + 1", 1);
    sings("2*3=6", 1);
    sings("5", 5);
    sings("(((((6)))))", 6);
    sings("9999*9999*9999", 9999 * 9999 * 9999);
    sings("field", 5);
    sings("singer", 0);
    sings("hour", 0);
    sings("known", 0);
    sings("known-1", 7);
    sings("purse+1", 1);
    // The least int by -1 wraps.
    sings("(0-8192*8192*32)/(0-1)", 0);
    sings("(0-8192*8192*32)/(0-1)<0", 1);
    // As deep as the operands can wait.
    String deep = "1 or 1 and 1<1+1*";
    sings((deep + "(").repeat(5) + deep + "1" + ")".repeat(5), 1);
  }
}
