/** The bounds of the text, sentence by sentence: TOKENS, LINES, EXPR, FAULTS, and promises 1 to 4. */
public final class BoundsTextTest {
  private static final String FIELD = "field 1 1 1;";
  private static final String TWO = FIELD.repeat(2);
  private static final String EIGHT = FIELD.repeat(8);
  private static final String SINGER = FIELD + "singer 0;";

  public static void main(String[] args) {
    newObject();
    tapeOf700();
    highestFirst();
    firstBytes();
    emptyThen();
    tooFewBytes();
    allAnew();
    allStays();
    placeOfTheFault();
    emptyText();
    fullText();
    oneAfterAnother();
    everyByte();
    longestRow();
    eachLetter();
    blanks();
    digits();
    acres();
    howManyNotes();
    notes();
    howManyFields();
    howManyPaths();
    steps();
    howManySingers();
    ways();
    lineEnds();
    endsTooSoon();
    firstAlongTheText();
    leastOfOneToken();
    withinSixOthers();
    sideBySide();
    noValue();
    notToldAhead();
    pathTwice();
    knownTwice();
    ownedTwice();
    ruleTwice();
    oneTest();
    fromTheLeft();
    ranks();
    intsThatWrap();
    cutDown();
    byNothing();
    whatHolds();
    values();
    Checks.end("BoundsTextTest");
  }

  private static void fault(String text, int kind, int place) {
    Checks.fault(text, kind, place);
  }

  /** A fault right behind the text that stands ahead of it. */
  private static void behind(String ahead, String token, int kind) {
    fault(ahead + token, kind, ahead.length());
  }

  private static void newObject() {
    Checks.sentence("`SongFields()`: No FIELDS.");
    SongFields x = new SongFields();
    for (int what = 0; what <= 10; what++) {
      Checks.is("count " + what, x.count(what), 0);
    }
    Checks.is("fault", x.fault(), -1);
    Checks.noSuch("field", () -> x.field(0, 0));
    Checks.noSuch("singer", () -> x.singer(0, 0));
    Checks.is("undo", x.undo(), -1);
    Checks.is("restore", x.restore(), false);
    Checks.is("it may be restored all the same", imageOfNothing(), true);
  }

  private static boolean imageOfNothing() {
    SongFields x = new SongFields();
    x.image();
    x.hours(30);
    return x.restore() && x.count(3) == 0 && x.count(5) == 0;
  }

  private static void tapeOf700() {
    Checks.sentence("NONE, and none come, if it would have more than 700.");
    SongFields x = new SongFields();
    for (int i = 1; i <= 35; i++) {
      Checks.is("feed " + i, x.feed(0x20202020, 0x20202020, 0x20202020, 0x20202020, 0x20202020), 20 * i);
    }
    for (int i = 0; i < 3; i++) {
      Checks.is("one more", x.feed(-1, -1, -1, -1, -1), -1);
      Checks.is("none came", x.count(7), 700);
    }
    Checks.is("it counts as no refused call", x.count(8) + x.count(9) + x.count(10), 0);
    Checks.is("all are blanks still", x.valley(700), 0);
    Checks.is("room again", x.feed(0, 0, 0, 0, 0), 20);
  }

  private static void highestFirst() {
    Checks.sentence("Twenty bytes come behind the tape, of each number the highest first: how many it has");
    // Each of the twenty is the one that can't stand, in turn; the numbers' highest bits are set.
    for (int place = 0; place < 20; place++) {
      int[] w = {0x20202020, 0x20202020, 0x20202020, 0x20202020, 0x20202020};
      int shift = 24 - place % 4 * 8;
      w[place / 4] = w[place / 4] & ~(255 << shift) | 255 << shift;
      SongFields x = new SongFields();
      Checks.is("blanks", x.feed(0x0a0a0a0a, 0x0a0a0a0a, 0x0a0a0a0a, 0x0a0a0a0a, 0x0a0a0a0a), 20);
      Checks.is("bytes", x.feed(w[0], w[1], w[2], w[3], w[4]), 40);
      Checks.is("fault", x.valley(40), 1);
      Checks.is("place", x.fault(), 20 + place);
    }
  }

  private static void firstBytes() {
    Checks.sentence("The tape's first n bytes");
    String text = FIELD + "field 2 2 2;x";
    int[] due = {0, 12, 24};
    for (int i = 0; i < due.length; i++) {
      SongFields x = new SongFields();
      Checks.feed(x, text);
      Checks.is("of " + due[i], x.valley(due[i]), 0);
      Checks.is("fields", x.count(0), i);
    }
    SongFields x = new SongFields();
    Checks.feed(x, text);
    Checks.is("one more", x.valley(25), 1);
    Checks.is("all of the tape", feedAndTell(text, 40), 1);
    Checks.is("all but its blanks", feedAndTell(FIELD, 20), 0);
  }

  private static int feedAndTell(String text, int n) {
    SongFields x = new SongFields();
    Checks.feed(x, text);
    return x.valley(n);
  }

  private static void emptyThen() {
    Checks.sentence("(it is empty then)");
    SongFields x = new SongFields();
    Checks.feed(x, FIELD + FIELD);
    Checks.is("a part of it", x.valley(12), 0);
    Checks.is("empty", x.count(7), 0);
    Checks.feed(x, "singer;");
    Checks.is("with a fault", x.valley(7), 1);
    Checks.is("empty", x.count(7), 0);
    Checks.feed(x, FIELD);
    Checks.is("of none", x.valley(0), 0);
    Checks.is("empty", x.count(7), 0);
    Checks.is("what comes is the first again", x.feed(0x20202020, 0, 0, 0, 0), 20);
    Checks.is("blanks", x.valley(4), 0);
  }

  private static void tooFewBytes() {
    Checks.sentence("IllegalArgumentException: the tape has not so many, n below 0 (nothing changes).");
    SongFields x = new SongFields();
    Checks.illegal("1 of none", () -> x.valley(1));
    Checks.is("0 of none", x.valley(0), 0);
    Checks.feed(x, FIELD);
    int[] wrong = {21, 22, 700, 701, -1, -2, Integer.MAX_VALUE, Integer.MIN_VALUE};
    for (int n : wrong) {
      Checks.illegal("valley " + n, () -> x.valley(n));
      Checks.is("the tape stays", x.count(7), 20);
      Checks.is("no text is refused", x.count(8), 0);
      Checks.is("no fault", x.fault(), -1);
    }
    Checks.is("what it has", x.valley(20), 0);
    Checks.is("is the text", x.count(0), 1);
  }

  private static void allAnew() {
    Checks.sentence("are a VALLEY, all anew: 0,");
    SongFields x = Checks.valley(TWO + "path 0 1 1;singer 0 1;singer 1;knows 0 1;owns 1 0;owns 0 1;sings 1;fines 9;");
    x.load(0, 1, 5);
    x.load(1, 0, 5);
    x.hours(7);
    Checks.is("another", Checks.tell(x, FIELD + "singer 0;"), 0);
    int[] counts = {1, 0, 1, 0, 0, 0, 0, 0};
    for (int what = 0; what < counts.length; what++) {
      Checks.is("count " + what, x.count(what), counts[what]);
    }
    Checks.is("nobody's", x.field(0, 2), -1);
    Checks.is("no path", x.field(0, 5), 0);
    Checks.is("its own tune", x.singer(0, 2), 1);
    Checks.is("its own way", x.singer(0, 0), 1);
    Checks.is("no purse", x.singer(0, 3), 0);
    Checks.is("no earth", x.earth(0, 0), 0);
    Checks.is("no rule", x.singer(0, 5), 0);
    Checks.noSuch("no field 1", () -> x.field(1, 0));
    Checks.noSuch("no singer 1", () -> x.singer(1, 0));
    Checks.sentence("ACTS, what is HEARD, the image are gone.");
    SongFields y = Checks.valley(SINGER);
    y.hours(1);
    y.hear(0, 1, 0);
    y.image();
    Checks.is("the same again", Checks.tell(y, SINGER), 0);
    Checks.is("no acts", y.count(5), 0);
    Checks.is("none undone", y.undo(), -1);
    Checks.is("nothing heard", y.count(6), 0);
    Checks.is("no image", y.restore(), false);
  }

  private static void allStays() {
    Checks.sentence("or the FAULT (all stays, but STATUS).");
    // Each kind of line is told ahead of the fault: none of it comes.
    String[] texts = {
      "@", FIELD.repeat(7) + "field 1", FIELD + "singer 0;path 0", TWO + "path 0 1 2;singer 1;knows 0 0;owns 0 0;sings 0;fines 5;sings",
      "sings (((((((", "fines 12345;"
    };
    int[] kinds = {1, 1, 1, 5, 2, 2};
    for (int i = 0; i < texts.length; i++) {
      SongFields x = Checks.valley(TWO + "path 0 1 1;singer 0 1;singer 1;knows 0 1;owns 1 0;owns 0 1;sings 1;fines 9;");
      x.hours(1);
      x.hear(0, 1, 0);
      x.image();
      x.hours(2);
      String ahead = Twins.look(x);
      for (int again = 1; again <= 2; again++) {
        Checks.is("a fault", Checks.tell(x, texts[i]), kinds[i]);
        Checks.is("all stays", Twins.look(x), ahead);
        Checks.is("but STATUS", x.count(8), again);
      }
      Checks.is("the acts stay", x.undo(), 1);
      Checks.is("hour 1", x.count(3), 1);
      x.hours(9);
      Checks.is("the image stays", x.restore(), true);
      Checks.is("hour 1", x.count(3), 1);
      Checks.is("as many as then", x.count(8), 0);
    }
  }

  private static void placeOfTheFault() {
    Checks.sentence("`int fault()`: The place of the latest valley()'s FAULT; NONE without.");
    SongFields x = new SongFields();
    Checks.is("ahead of any", x.fault(), -1);
    Checks.tell(x, "@");
    Checks.is("at 0", x.fault(), 0);
    Checks.tell(x, "  @");
    Checks.is("at 2", x.fault(), 2);
    Checks.illegal("no text", () -> x.valley(1));
    Checks.is("the latest is still that", x.fault(), 2);
    Checks.tell(x, FIELD);
    Checks.is("none", x.fault(), -1);
    StringBuilder late = new StringBuilder(" ".repeat(699)).append('@');
    Checks.tell(x, late.toString());
    Checks.is("the last byte", x.fault(), 699);
    Checks.tell(x, "field" + " ".repeat(695));
    Checks.is("the text's length", x.fault(), 700);
    x.image();
    Checks.tell(x, FIELD + "@");
    x.restore();
    Checks.is("an image has none", x.fault(), 12);
  }

  private static void emptyText() {
    Checks.sentence("VALLEY: LINE*.");
    Checks.stands("");
    Checks.stands(" ");
    Checks.stands("\n");
    Checks.stands(" \n".repeat(350));
    Checks.stands(FIELD);
    Checks.stands(" " + FIELD + "\n" + FIELD + " ");
  }

  private static void fullText() {
    Checks.sentence("A TEXT of at most 700 bytes tells it.");
    StringBuilder sum = new StringBuilder("sings 1");
    while (sum.length() + 3 <= 700) {
      sum.append("+1");
    }
    Checks.is("bytes", sum.append(";").length(), 700);
    Checks.stands(sum.toString());
    fault(sum.substring(0, 699) + "+", 1, 700);
    Checks.stands(" ".repeat(688) + FIELD);
    Checks.stands(FIELD + " ".repeat(688));
    // Two rules with as much code as 700 bytes can make.
    String nots = "not not not not not not 1";
    String sings = "sings " + (nots + " and ").repeat(10) + nots + ";";
    String fines = "fines " + (nots + " or ").repeat(9) + nots + ";";
    Checks.stands(fines + sings);
    Checks.is("nearly 700", (fines + sings).length() > 620 && (fines + sings).length() <= 700, true);
    // A number each with one byte, an operator each: what is far behind still counts.
    String sevens = "field 9 1 1;field 9 2 2;singer 0;singer 1;owns 1 1;knows 0 1;sings 1;fines ";
    StringBuilder long1 = new StringBuilder(sevens).append("5");
    while (long1.length() + 5 <= 700) {
      long1.append("+0");
    }
    long1.append("+2");
    Checks.is("bytes", long1.append(";").length() > 698, true);
    Checks.is("the last of them", Checks.valley(long1.toString()).purse(1, 1), 7);
  }

  private static void oneAfterAnother() {
    Checks.sentence("are a VALLEY, all anew: 0,");
    String full = paths(14) + "singer 0 1 2 3 4 5;".repeat(6) + "knows 0 7;owns 5 7;sings (((((1)))));fines (((((2)))));";
    SongFields x = new SongFields();
    for (int i = 0; i < 4; i++) {
      Checks.is("as much as there can be, again", Checks.tell(x, full), 0);
      Checks.is("paths", x.count(1), 14);
      // Faults in all places where something waits: nothing of it waits on.
      Checks.is("open", Checks.tell(x, "sings (((((1 or not 1<2+3*@"), 1);
      Checks.is("too deep", Checks.tell(x, "fines ((((((far"), 2);
      Checks.is("not", Checks.tell(x, "sings not not not not not not not 1"), 2);
      Checks.is("it is closed by nothing", Checks.tell(x, "sings 1);"), 1);
      Checks.is("place", x.fault(), 7);
      Checks.is("a test that waits", Checks.tell(x, "sings 1<@"), 1);
      Checks.is("another may stand", Checks.tell(x, "sings 1<2;"), 0);
      Checks.is("six nots, too", Checks.tell(x, "sings not not not not not not 1;"), 0);
      Checks.is("no fields", x.count(0), 0);
    }
  }

  private static String sign(int b) {
    return String.valueOf((char) b);
  }

  private static boolean isBlank(int b) {
    return b == 32 || b == 10;
  }

  private static void everyByte() {
    Checks.sentence("signs ; ( ) + - * / < =");
    for (int b = 0; b < 256; b++) {
      boolean letter = b >= 'a' && b <= 'z';
      boolean digit = b >= '0' && b <= '9';
      boolean joins = b == '+' || b == '-' || b == '*' || b == '/' || b == '<' || b == '=';
      // Where a line begins.
      fault(sign(b), isBlank(b) ? 0 : 1, 0);
      // Where a PART must stand.
      int part = digit ? 0 : letter ? 3 : 1;
      fault("sings " + sign(b) + ";", part, b == '(' || isBlank(b) ? 7 : 6);
      // Behind a PART.
      boolean two = isBlank(b) || b == ';';
      fault("sings 1" + sign(b) + "1;", digit || joins ? 0 : 1, two ? 8 : 7);
      // Behind a word: it may make it another one.
      fault(FIELD + "singer" + sign(b) + "0;", isBlank(b) || b == '0' ? 0 : digit ? 3 : 1, letter ? 12 : 18);
      // Where a line must end.
      fault("field 1 1 1" + sign(b), b == ';' ? 0 : digit ? 2 : 1, digit ? 10 : isBlank(b) ? 12 : 11);
    }
  }

  private static void longestRow() {
    Checks.sentence("words (a .. z, the longest row)");
    fault("fieldx 1 1 1;", 1, 0);
    fault("fiel 1 1 1;", 1, 0);
    fault("xfield 1 1 1;", 1, 0);
    fault("singers 0;", 1, 0);
    fault("sing 0;", 1, 0);
    fault("sings hourhour;", 3, 6);
    fault("sings hou;", 3, 6);
    fault("sings nothour;", 3, 6);
    fault("sings notnot 1;", 3, 6);
    fault("sings 1 andnot 1;", 1, 8);
    fault("sings 1 orr 1;", 1, 8);
    fault("fieldsings", 1, 0);
    fault("q".repeat(700), 1, 0);
    fault("sings " + "hour".repeat(173) + ";", 3, 6);
    Checks.stands("sings 1and 1or 0;");
    Checks.stands("sings not(1)or(hour)and(0);");
    Checks.stands("field1 1 1;field1 1 1;singer0;knows0 1;owns0 1;path0 1 1;");
  }

  /** Each letter of each word counts: with another one in its place it is another word. */
  private static void eachLetter() {
    Checks.sentence("In quotes is what stands there");
    String[] words = {"field", "path", "singer", "knows", "owns", "sings", "fines"};
    for (String word : words) {
      for (int i = 0; i < word.length(); i++) {
        fault(word.substring(0, i) + "q" + word.substring(i + 1) + " 1 1 1;", 1, 0);
        fault(word.substring(0, i) + "F" + word.substring(i + 1) + " 1 1 1;", 1, 0);
        fault(word.substring(0, i) + word.substring(i + 1) + " 1 1 1;", 1, 0);
      }
    }
    String[] values = {"hour", "singer", "field", "known", "purse", "not 1", "far", "acres", "notes", "hearers"};
    for (int v = 0; v < values.length; v++) {
      String ahead = v < 6 ? "sings " : "fines ";
      Checks.stands(ahead + values[v] + ";");
      for (int i = 0; i < values[v].replace(" 1", "").length(); i++) {
        fault(ahead + values[v].substring(0, i) + "q" + values[v].substring(i + 1) + ";", 3, 6);
      }
    }
    String[] joins = {"and", "or"};
    for (String join : joins) {
      for (int i = 0; i < join.length(); i++) {
        fault("sings 1 " + join.substring(0, i) + "q" + join.substring(i + 1) + " 1;", 1, 8);
      }
    }
  }

  private static void blanks() {
    Checks.sentence("blanks (32, 10) between them count for nothing.");
    Checks.stands("\n\nfield\n1  1\n \n1 ;\n\nsinger\n0;");
    Checks.stands("field1 1 1;singer 0;owns 0 0;sings(1)+(2)<3;fines far/2;");
    int[] others = {0, 9, 11, 12, 13, 31, 33, 127, 128, 133, 138, 160, 255};
    for (int b : others) {
      fault("field" + sign(b) + "1 1 1;", 1, 5);
      fault(FIELD + sign(b), 1, 12);
    }
    // A blank parts words and numbers.
    fault("fi eld 1 1 1;", 1, 0);
    fault("sings ho ur;", 3, 6);
    fault("sings 1 1;", 1, 8);
    SongFields x = Checks.valley("field 1 2 3;");
    Checks.is("two notes", x.field(0, 1), 2);
    SongFields y = Checks.valley("field 1 2 3 4\n5;");
    Checks.is("four notes", y.field(0, 1), 4);
    fault("field 1 23;", 2, 8);
  }

  private static void digits() {
    Checks.sentence("NUMBERS (1 to 4 digits)");
    Checks.sentence("a NUMBER of 5 digits or more");
    Checks.stands("field 1 1 1;");
    Checks.stands("field 0001 0001 0000;");
    fault("field 00001 1 1;", 2, 6);
    fault("field 1 00001 1;", 2, 8);
    fault("field 1 1 00001;", 2, 10);
    fault("field 1 1 1 00001;", 2, 12);
    fault(TWO + "path 00000 1 1;", 2, 29);
    fault(TWO + "path 0 00001 1;", 2, 31);
    fault(TWO + "path 0 1 00001;", 2, 33);
    Checks.stands(TWO + "path 0000 0001 0001;");
    fault(FIELD + "singer 00000;", 2, 19);
    fault(FIELD + "singer 0 00000;", 2, 21);
    fault(SINGER + "knows 00000 0;", 2, 27);
    fault(SINGER + "owns 00000 0;", 2, 26);
    fault(SINGER + "owns 0 00000;", 2, 28);
    fault(TWO + "singer 0;knows 0 00001;", 2, 41);
    Checks.stands("sings 9999;");
    Checks.stands("sings 0000;");
    fault("sings 10000;", 2, 6);
    fault("sings 00000;", 2, 6);
    fault("sings 1+10000;", 2, 8);
    fault("fines (10000);", 2, 7);
    fault("sings " + "1".repeat(690) + ";", 2, 6);
    // Where no NUMBER can stand, it is not too much.
    fault("10000", 1, 0);
    fault("sings 1 10000;", 1, 8);
    fault(TWO + "path 0 1 1 10000;", 1, 35);
    fault(SINGER + "owns 0 0 10000;", 1, 30);
  }

  private static void acres() {
    Checks.sentence("ACRES (1 to 99)");
    int[] wrong = {0, 100, 101, 999, 1000, 9999};
    for (int acres : wrong) {
      fault("field " + acres + " 1 1;", 2, 6);
    }
    int[] right = {1, 2, 98, 99};
    for (int acres : right) {
      Checks.is("acres", Checks.valley("field " + acres + " 1 1;").field(0, 0), acres);
    }
  }

  private static void howManyNotes() {
    Checks.sentence("a TUNE (2 to 6 NOTES");
    fault("field 1;", 1, 7);
    fault("field 1 1;", 1, 9);
    for (int many = 2; many <= 6; many++) {
      Checks.is("notes", Checks.valley("field 1" + " 7".repeat(many) + ";").field(0, 1), many);
    }
    Checks.sentence("the 7th NOTE");
    String six = "field 1 1 1 1 1 1 1 ";
    behind(six, "1;", 2);
    behind(six, "1", 2);
    behind(six, "99;", 2);
    behind(six, "99999;", 2);
    behind(six, "1 1;", 2);
    behind(six, "hour;", 1);
    behind(six, "(", 1);
    behind(six, "", 1);
    Checks.stands(six + ";");
  }

  private static void notes() {
    Checks.sentence("0 to 9 each)");
    for (int i = 0; i < 6; i++) {
      String ahead = "field 1" + " 0".repeat(i) + " ";
      String after = " 9".repeat(5 - i) + ";";
      fault(ahead + "10" + after, 2, ahead.length());
      fault(ahead + "9999" + after, 2, ahead.length());
      Checks.is("a 9", Checks.valley(ahead + "9" + after).note(0, i), 9);
      Checks.is("a 0", Checks.valley(ahead + "0" + after).note(0, i), 0);
    }
    fault("field 1 -1 1;", 1, 8);
  }

  private static void howManyFields() {
    Checks.sentence("FIELDS 0, 1 .. (at most 8)");
    Checks.sentence("the first TOKEN of the 9th FIELD");
    for (int many = 0; many <= 8; many++) {
      Checks.is("fields", Checks.valley(FIELD.repeat(many)).count(0), many);
    }
    behind(EIGHT, FIELD, 2);
    behind(EIGHT, "field", 2);
    behind(EIGHT, "field @", 2);
    behind(EIGHT, "field 0 1 1;", 2);
    behind(EIGHT, "fields", 1);
    behind(FIELD.repeat(7), "field", 1, 5);
  }

  private static void behind(String ahead, String token, int kind, int more) {
    fault(ahead + token, kind, ahead.length() + more);
  }

  /** So many paths among eight fields: 0 to all others, then 1 to 2 and on. */
  private static String paths(int many) {
    StringBuilder all = new StringBuilder(EIGHT);
    int told = 0;
    for (int a = 0; a < 8; a++) {
      for (int b = a + 1; b < 8 && told < many; b++) {
        all.append("path ").append(a).append(' ').append(b).append(" 1;");
        told++;
      }
    }
    return all.toString();
  }

  private static void howManyPaths() {
    Checks.sentence("PATHS (at most 14)");
    Checks.sentence("the 15th PATH");
    for (int many = 0; many <= 14; many++) {
      Checks.is("paths", Checks.valley(paths(many)).count(1), many);
    }
    behind(paths(14), "path 2 4 1;", 2);
    behind(paths(14), "path", 2);
    behind(paths(14), "path 0 0 1;", 2);
    behind(paths(13), "path", 1, 4);
    Checks.stands(paths(14) + "singer 0;");
  }

  private static void steps() {
    Checks.sentence("STEPS (1 to 20)");
    int[] wrong = {0, 21, 22, 100, 9999};
    for (int steps : wrong) {
      fault(TWO + "path 0 1 " + steps + ";", 2, 33);
    }
    int[] right = {1, 2, 19, 20};
    for (int steps : right) {
      Checks.is("steps", Checks.valley(TWO + "path 0 1 " + steps + ";").far(0, 1), steps);
    }
  }

  private static void howManySingers() {
    Checks.sentence("SINGERS 0, 1 .. (at most 6)");
    Checks.sentence("the 7th SINGER");
    for (int many = 0; many <= 6; many++) {
      Checks.is("singers", Checks.valley(FIELD + "singer 0;".repeat(many)).count(2), many);
    }
    String six = FIELD + "singer 0;".repeat(6);
    behind(six, "singer 0;", 2);
    behind(six, "singer", 2);
    behind(six, "singer 9;", 2);
    behind(FIELD + "singer 0;".repeat(5), "singer", 1, 6);
  }

  private static void ways() {
    Checks.sentence("a WAY (1 to 6 FIELDS)");
    fault(FIELD + "singer;", 1, 18);
    for (int many = 1; many <= 6; many++) {
      Checks.is("way", Checks.valley(FIELD + "singer" + " 0".repeat(many) + ";").singer(0, 0), many);
    }
    Checks.sentence("the 7th FIELD of a WAY");
    String six = FIELD + "singer 0 0 0 0 0 0 ";
    behind(six, "0;", 2);
    behind(six, "0", 2);
    behind(six, "1;", 2);
    behind(six, "9999;", 2);
    behind(six, "99999;", 2);
    behind(six, "field;", 1);
    behind(six, "", 1);
    Checks.stands(six + ";");
  }

  private static void lineEnds() {
    Checks.sentence("all in capitals but EXPR being NUMBERS.");
    Checks.sentence("1 a TOKEN that can't stand there, or is none");
    String[] lines = {"field 1 1 1;", "path 0 1 1;", "singer 0;", "knows 0 1;", "owns 0 1;"};
    int[] least = {4, 4, 2, 3, 3};
    String[] others = {"x", "field", "(", ")", "+", "-", "*", "/", "<", "=", "@", "\u00e9"};
    String ahead = TWO + "singer 0;";
    for (int i = 0; i < lines.length; i++) {
      String[] tokens = lines[i].replace(";", " ;").split(" ");
      for (int t = 0; t < tokens.length; t++) {
        StringBuilder text = new StringBuilder(ahead);
        for (int u = 0; u < t; u++) {
          text.append(tokens[u]).append(' ');
        }
        for (String other : others) {
          if (t > 0 || !other.equals("field")) {
            behind(text.toString(), other, 1);
          }
        }
        if (t == 0) {
          behind(text.toString(), "1", 1);
        }
        if (t < least[i]) {
          behind(text.toString(), ";", 1);
        }
      }
      Checks.stands(ahead + lines[i]);
    }
    fault(TWO + "path 0 1 1 1;", 1, 35);
    fault(ahead + "knows 0 1 1;", 1, 43);
    fault(ahead + "owns 0 1 1;", 1, 42);
    fault(";", 1, 0);
    fault(FIELD + ";", 1, 12);
    fault("sings 1;;", 1, 8);
  }

  private static void endsTooSoon() {
    Checks.sentence("(the text's length where it ends too soon)");
    String all = TWO + "path 0 1 1;singer 0;knows 0 1;owns 0 1;sings (1+hour)*2<3 and not 4;fines far;";
    int lineEnd = 0;
    for (int n = 0; n <= all.length(); n++) {
      lineEnd = n > 0 && all.charAt(n - 1) == ';' ? n : lineEnd;
      String text = all.substring(0, n);
      boolean whole = n == lineEnd;
      // A word that is cut is another word: it is the fault, if it is none of those that can stand there.
      char last = n > 0 ? all.charAt(n - 1) : ' ';
      boolean cut = n < all.length() && last >= 'a' && last <= 'z' && all.charAt(n) >= 'a' && all.charAt(n) <= 'z';
      if (!cut) {
        fault(text, whole ? 0 : 1, n);
        fault(text + " ", whole ? 0 : 1, n + 1);
        fault(text + " \n", whole ? 0 : 1, n + 2);
      }
    }
  }

  private static void firstAlongTheText() {
    Checks.sentence("FAULTS, the first along the text, at a TOKEN's first byte");
    fault("field 0 10 1;", 2, 6);
    fault("field 1 10 1;@", 2, 8);
    fault("field 100 x;", 2, 6);
    fault("field x 100;", 1, 6);
    fault("path 5 5 99;", 3, 5);
    fault(FIELD + "path 0 0 99;", 4, 19);
    fault(FIELD + "path 0 1 99;", 3, 19);
    fault("sings 1;sings @;", 5, 8);
    fault("sings @;sings 1;", 1, 6);
    fault("sings abc+10000;", 3, 6);
    fault("sings 10000+abc;", 2, 6);
    fault("   abc", 1, 3);
    fault(" 12345", 1, 1);
    fault("field   12345 1 1;", 2, 8);
  }

  private static void leastOfOneToken() {
    Checks.sentence("of one TOKEN the least");
    // No VALUE and too deep; five digits and too deep; not told and the 7th; five digits and not told.
    behind("sings ((((((", "abc;", 2);
    behind("sings ((((((", "12345;", 2);
    behind(FIELD + "singer 0 0 0 0 0 0 ", "5;", 2);
    behind(FIELD + "singer ", "12345;", 2);
    behind(SINGER + "knows ", "12345 0;", 2);
    behind(SINGER + "knows 0 ", "00000;", 2);
    behind(SINGER + "owns 0 0;owns 0 ", "00000;", 2);
    behind(TWO + "path 1 ", "00001 1;", 2);
    behind(TWO + "path 1 ", "1 1;", 4);
    // Where it can't stand, that comes ahead of all.
    behind(SINGER + "owns 0 0", " 12345;", 1, 1);
    behind("sings ((((((", ")", 1);
    behind("sings 1 ", "abc;", 1);
    behind("sings 1 ", "not;", 1);
  }

  private static void withinSixOthers() {
    Checks.sentence("of an EXPR within 6 others (a NUMBER, any word, a parenthesis)");
    for (int deep = 0; deep <= 5; deep++) {
      Checks.stands("sings " + "(".repeat(deep) + "1" + ")".repeat(deep) + ";");
      Checks.stands("fines " + "(".repeat(deep) + "not far" + ")".repeat(deep) + ";");
    }
    String six = "sings ((((((";
    String[] first = {"1", "9999", "hour", "far", "abc", "not", "or", "and", "field", "(", "12345"};
    for (String token : first) {
      behind(six, token, 2);
      behind(six, token + "))))));", 2);
    }
    String[] none = {")", ";", "+", "-", "*", "/", "<", "=", "@", ""};
    for (String token : none) {
      behind(six, token, 1);
    }
    behind("sings 1+((((((", "1", 2);
    behind("sings not ((((((", "1", 2);
    behind("sings (((((1)))))+((((((", "1", 2);
    behind("fines ((((((", "far", 2);
    behind("sings (1+(1*(1<(1 and (1 or (", "1", 2);
    Checks.stands("sings (1+(1*(1<(1 and (1)))));");
    // As many beside one another as there are: they are not within one another.
    Checks.stands("sings " + "(1)+".repeat(100) + "(1);");
    Checks.stands("sings ((((" + "(1)*".repeat(100) + "(1)))));");
  }

  private static void sideBySide() {
    Checks.sentence("the seventh 'not' side by side");
    for (int many = 0; many <= 6; many++) {
      Checks.stands("sings " + "not ".repeat(many) + "1;");
    }
    String six = "sings not not not not not not ";
    behind(six, "not 1;", 2);
    behind(six, "not", 2);
    behind(six, "nots", 3);
    behind(six, "or", 3);
    behind(six, "not not 1;", 2);
    Checks.stands(six + "(not 1);");
    Checks.stands(six + "(not not not not not not 1);");
    behind(six + "(not not not not not not ", "not 1);", 2);
    Checks.stands(six + "1 and not 1;");
    Checks.stands(six + "1 or not not not not not not hour;");
    behind(six + "1 or not not not not not not ", "not hour;", 2);
    behind("sings 1 and not not not not not not ", "not hour;", 2);
    behind("fines (((((not not not not not not ", "not far", 2);
    // A blank of another kind, or any number of blanks, is still side by side.
    behind("sings not\nnot  not\n\nnot not not ", "not 1;", 2);
  }

  private static void noValue() {
    Checks.sentence("3 any word where a PART must stand that is no VALUE of this EXPR");
    String[] ofSings = {"hour", "singer", "field", "known", "purse"};
    String[] ofFines = {"far", "acres", "notes", "hearers", "purse"};
    for (String value : ofSings) {
      Checks.stands("sings " + value + ";");
      Checks.stands("sings 1+(" + value + ");");
      fault("fines " + value + ";", value.equals("purse") ? 0 : 3, 6);
    }
    for (String value : ofFines) {
      Checks.stands("fines " + value + ";");
      fault("sings " + value + ";", value.equals("purse") ? 0 : 3, 6);
    }
    String[] words = {"or", "and", "x", "path", "knows", "owns", "sings", "fines", "hours", "hou", "nota"};
    String[] ahead = {"sings ", "sings 1+", "sings 1-", "sings 1*", "sings 1/", "sings 1<", "sings 1=", "sings (",
      "sings not ", "sings 1 and ", "sings 1 or ", "fines ", "fines 1+(far*"};
    for (String a : ahead) {
      for (String word : words) {
        behind(a, word + ";", 3);
      }
    }
    // 'not' is a word as well where only a PART can stand.
    String[] parts = {"sings 1+", "sings 1-", "sings 1*", "sings 1/", "sings 1<", "sings 1=", "sings not 1+"};
    for (String a : parts) {
      behind(a, "not 1;", 3);
    }
    String[] nots = {"sings ", "sings (", "sings not ", "sings 1 and ", "sings 1 or ", "sings 1+("};
    for (String a : nots) {
      Checks.stands(a + "not 1" + (a.endsWith("(") ? ")" : "") + ";");
    }
  }

  private static void notToldAhead() {
    Checks.sentence("a FIELD, a SINGER that isn't told ahead");
    int[] numbers = {2, 3, 7, 8, 9, 99, 9999};
    for (int n : numbers) {
      String many = String.valueOf(n);
      behind(TWO + "path ", many + " 0 1;", 3);
      behind(TWO + "path 0 ", many + " 1;", 3);
      behind(TWO + "singer ", many + ";", 3);
      behind(TWO + "singer 0 1 ", many + ";", 3);
      behind(TWO + "singer 0;singer 1;knows ", many + " 0;", 3);
      behind(TWO + "singer 0;singer 1;knows 0 ", many + ";", 3);
      behind(TWO + "singer 0;singer 1;owns ", many + " 0;", 3);
      behind(TWO + "singer 0;singer 1;owns 0 ", many + ";", 3);
    }
    // The last that is told, and one that is told behind.
    Checks.stands(TWO + "path 1 0 1;singer 1;singer 1;knows 1 0;owns 1 1;");
    behind("singer ", "0;" + FIELD, 3);
    behind("path ", "0 1 1;" + TWO, 3);
    behind(FIELD + "path 0 ", "1 1;" + FIELD, 3);
    behind(FIELD + "owns ", "0 0;singer 0;", 3);
    behind(FIELD + "knows ", "0 0;singer 0;", 3);
    behind(SINGER + "owns 0 ", "1;" + FIELD, 3);
    Checks.stands(SINGER + FIELD + "owns 0 1;knows 0 1;path 0 1 1;singer 1;");
  }

  private static void pathTwice() {
    Checks.sentence("4 the second FIELD of a PATH that is the first one, or has one with it");
    behind(FIELD + "path 0 ", "0 1;", 4);
    behind(TWO + "path 1 ", "1 1;", 4);
    behind(TWO + "path 0 1 1;path 0 ", "1 2;", 4);
    behind(TWO + "path 0 1 1;path 1 ", "0 2;", 4);
    behind(TWO + "path 0 1 1;path 1 ", "1", 4);
    behind(FIELD.repeat(3) + "path 0 1 1;path 1 2 1;path 2 ", "1 1;", 4);
    Checks.stands(FIELD.repeat(3) + "path 0 1 1;path 1 2 1;path 2 0 1;");
    SongFields x = new SongFields();
    Checks.is("a fault behind a path", Checks.tell(x, TWO + "path 0 1 1;@"), 1);
    Checks.is("leaves no path", Checks.tell(x, TWO + "path 0 1 1;"), 0);
  }

  private static void knownTwice() {
    Checks.sentence("a FIELD that is KNOWN by that SINGER");
    behind(TWO + "singer 1 0;knows 0 ", "1;", 4);
    behind(TWO + "singer 1 0;knows 0 0;knows 0 ", "0;", 4);
    behind(TWO + "singer 1 0;knows 0 ", "1", 4);
    Checks.stands(TWO + "singer 1 0;knows 0 0;");
    Checks.stands(TWO + "singer 1;singer 0;knows 1 1;knows 0 0;");
    behind(TWO + "singer 1;singer 0;knows 1 1;knows 0 0;knows 1 ", "1;", 4);
  }

  private static void ownedTwice() {
    Checks.sentence("that is OWNED already");
    behind(TWO + "singer 0;singer 0;owns 0 1;owns 0 ", "1;", 4);
    behind(TWO + "singer 0;singer 0;owns 0 1;owns 1 ", "1;", 4);
    behind(TWO + "singer 0;singer 0;owns 0 1;owns 1 ", "1", 4);
    Checks.stands(TWO + "singer 0;singer 0;owns 0 1;owns 0 0;");
    Checks.stands(TWO + "singer 0;owns 0 0;");
  }

  private static void ruleTwice() {
    Checks.sentence("5 a second 'sings', 'fines'.");
    behind("sings 1;", "sings 2;", 5);
    behind("fines 1;", "fines 2;", 5);
    behind("sings 1;", "sings", 5);
    behind("sings 1;fines 1;", "fines @", 5);
    behind("fines 1;sings 1;", "sings 12345;", 5);
    Checks.stands("sings 1;fines 1;");
    Checks.stands("fines 1;sings 1;");
    Checks.stands("sings 1;" + FIELD + "fines 1;singer 0;");
    SongFields x = new SongFields();
    Checks.is("a rule of a fault", Checks.tell(x, "sings 1;fines 1;@"), 1);
    Checks.is("is gone", Checks.tell(x, "sings 1;fines 1;"), 0);
    Checks.is("a rule of another text", Checks.tell(x, "sings 1;fines 1;"), 0);
  }

  private static void oneTest() {
    Checks.sentence("NOT: 'not' NOT | SUM [('<' | '=') SUM].");
    String[] tests = {"<", "="};
    for (String a : tests) {
      for (String b : tests) {
        behind("sings 1" + a + "2", b + "3;", 1);
        behind("sings not 1" + a + "2+3", b + "3;", 1);
        behind("sings (1" + a + "2*2", b + "3);", 1);
        behind("sings 0 or 1" + a + "2", b + "3;", 1);
        Checks.stands("sings 1" + a + "2 and 3" + b + "4;");
        Checks.stands("sings (1" + a + "2)" + b + "3;");
        Checks.stands("sings 1" + a + "(2" + b + "3);");
        Checks.stands("sings not 1" + a + "2 or not 3" + b + "4;");
      }
    }
    fault("sings 1<;", 1, 8);
    fault("sings <1;", 1, 6);
    fault("sings 1<=2;", 1, 8);
  }

  /** What a rule of fines gives, kept to 0 to 99; far 6, acres 9, notes 3, hearers 1, purse 0. */
  private static void gives(String phrase, int due) {
    SongFields x = Checks.valley(
        "field 5 1 2;field 9 3 4 5;path 0 1 6;singer 0;singer 1;knows 0 1;owns 1 1;sings 1;fines " + phrase + ";");
    Checks.is(phrase, x.purse(1, 1), due);
  }

  private static void fromTheLeft() {
    Checks.sentence("From the left;");
    gives("9-3-2", 4);
    gives("9-(3-2)", 8);
    gives("9-3+2", 8);
    gives("9-(3+2)", 4);
    gives("80/4/2", 10);
    gives("80/(4/2)", 40);
    gives("80/4*2", 40);
    gives("80/(4*2)", 10);
    gives("7*3/2", 10);
    gives("7*(3/2)", 7);
    gives("90-1-1-1-1-1", 85);
  }

  private static void ranks() {
    Checks.sentence("EXPR: AND ('or' AND)*. AND: NOT ('and' NOT)*.");
    gives("1 or 1 and 0", 1);
    gives("(1 or 1) and 0", 0);
    gives("0 and 0 or 1", 1);
    gives("0 and (0 or 1)", 0);
    gives("not 1 or 1", 1);
    gives("not (1 or 1)", 0);
    gives("not 1 and 0", 0);
    gives("not (1 and 0)", 1);
    gives("not 2=3", 1);
    gives("(not 2)=3", 0);
    gives("not 0+1", 0);
    gives("(not 0)+1", 2);
    gives("1 and 2=2", 1);
    gives("(1 and 2)=2", 0);
    Checks.sentence("SUM: PRODUCT (('+' | '-') PRODUCT)*. PRODUCT: PART (('*' | '/') PART)*.");
    gives("2+3*4", 14);
    gives("(2+3)*4", 20);
    gives("2*3+4", 10);
    gives("20-8/4", 18);
    gives("(20-8)/4", 3);
    gives("1+2<2+2", 1);
    gives("2*3=3+3", 1);
    gives("5+(2<3)*4", 9);
  }

  private static void intsThatWrap() {
    Checks.sentence("ints that wrap");
    String least = "8192*8192*32";
    gives(least + "<0", 1);
    gives("0<" + least + "-1", 1);
    gives("0-" + least + "=" + least, 1);
    gives(least + "*2", 0);
    gives("(" + least + "-1)*2=0-2", 1);
    gives("(" + least + "-1)+(" + least + "-1)=0-2", 1);
    gives("9999*9999*9999=(9999*9999)*9999", 1);
    gives("8192*8192*31+8192*8192<0", 1);
    gives("8192*8192*64+7", 7);
    gives("0<0-" + least + "-1", 1);
  }

  private static void cutDown() {
    Checks.sentence("/ cut down to 0");
    gives("7/2", 3);
    gives("1/2", 0);
    gives("99/100", 0);
    gives("100/100", 1);
    gives("0-(0-7)/2", 3);
    gives("0-7/(0-2)", 3);
    gives("(0-7)/(0-2)", 3);
    gives("(0-1)/2=0", 1);
    gives("5+(0-1)/2", 5);
    gives("(0-8192*8192*32)/(0-1)<0", 1);
    gives("(8192*8192*32-1)/(0-1)=8192*8192*32+1", 1);
  }

  private static void byNothing() {
    Checks.sentence("by 0 gives 0");
    gives("7/0", 0);
    gives("0/0", 0);
    gives("7/0+5", 5);
    gives("7/(3-3)+5", 5);
    gives("9/0*7+1", 1);
    gives("8192*8192*32/0+3", 3);
    gives("7/(8192*8192*64)+4", 4);
  }

  private static void whatHolds() {
    Checks.sentence("tests, not, and, or are 1 or 0 (what isn't 0 holds).");
    gives("1<2", 1);
    gives("2<2", 0);
    gives("3<2", 0);
    gives("0-1<0", 1);
    gives("2=2", 1);
    gives("2=1", 0);
    gives("not 0", 1);
    gives("not 1", 0);
    gives("not 5", 0);
    gives("not (0-5)", 0);
    gives("not not 5", 1);
    gives("not not not not not not 7", 1);
    gives("5 and 3", 1);
    gives("2 and 1", 1);
    gives("(0-1) and (0-2)", 1);
    gives("5 and 0", 0);
    gives("0 and 5", 0);
    gives("0 and 0", 0);
    gives("5 or 3", 1);
    gives("0 or (0-3)", 1);
    gives("(0-3) or 0", 1);
    gives("0 or 0", 0);
    gives("(5 and 3)+(5 or 3)+(not 0)", 3);
    gives("8192*8192*32 and 1", 1);
    gives("(8192*8192*64) or 0", 0);
  }

  private static void values() {
    Checks.sentence("VALUES of SINGS, of a SINGER: 'hour', 'singer', 'field' (in which one is), 'known'");
    String eight = "field 1 1 1;".repeat(8) + "singer 2 5;singer 6;knows 1 0;";
    for (int f = 0; f < 8; f++) {
      eight += (f == 2 ? "" : "knows 0 " + f + ";");
    }
    Checks.is("hour 0", Checks.valley(eight + "sings hour;").sung(0, 1), 0);
    Checks.is("hour 7", Checks.valley(eight + "sings hour;").sung(0, 8), 7);
    Checks.is("hour 8", Checks.valley(eight + "sings hour;").sung(0, 9), 0);
    Checks.is("singer 0", Checks.valley(eight + "sings singer;").sung(0, 1), 0);
    Checks.is("singer 1, who knows but 0 and 6", Checks.valley(eight + "sings singer-1;").sung(1, 1), 0);
    Checks.is("field 2", Checks.valley(eight + "sings field;").sung(0, 1), 2);
    Checks.is("field 5", Checks.valley(eight + "sings field;").sung(0, 2), 5);
    Checks.is("known 8", Checks.valley(eight + "sings known-1;").sung(0, 1), 7);
    Checks.is("known 2", Checks.valley(eight + "sings known-2;").sung(1, 1), 0);
    Checks.is("purse 0", Checks.valley(eight + "sings purse+3;").sung(0, 1), 3);
    // The last of six pays 1 in the first hour: its purse is its own, in SINGS and in FINES.
    String six = FIELD.repeat(3) + "singer 0;".repeat(5) + "singer 1;owns 0 0;knows 5 0;knows 5 2;fines 1-5*purse;";
    SongFields last = Checks.valley(six + "sings 0-2*purse*(singer=5);");
    Checks.is("no purse yet", last.sung(5, 1), 0);
    Checks.is("a purse of -1", last.sung(5, 2), 2);
    Checks.is("of the last alone", last.purse(5, 1), -1);
    Checks.is("in FINES, too", Checks.valley(six + "sings 0;").purse(5, 2), -1 - 6);
    Checks.sentence("(STEPS of the shortest way between that FIELD and the TUNE's; 99, if there is none)");
    gives("far", 6);
    gives("acres", 9);
    gives("notes", 3);
    gives("hearers", 1);
    gives("5-purse", 5);
    String line = "field 1 1 1;".repeat(8);
    for (int f = 0; f < 7; f++) {
      line += "path " + f + " " + (f + 1) + " 20;";
    }
    line += "singer 0;singer 7;knows 0 7;owns 1 7;sings 7;";
    Checks.is("140 steps are 140 in a rule", Checks.valley(line + "fines far-100;").purse(1, 1), 40);
    Checks.is("they are no 99", Checks.valley(line + "fines 5*(far=140);").purse(1, 1), 5);
    String apart = "field 1 1 1;field 1 2 2;singer 0;singer 1;knows 0 1;owns 1 1;sings 1;";
    Checks.is("no way is 99", Checks.valley(apart + "fines far-90;").purse(1, 1), 9);
    Checks.sentence("'hearers' (how many others hear it)");
    for (int others = 0; others <= 4; others++) {
      String all = "field 1 1 1;field 1 2 2;field 1 3 3;path 0 2 1;singer 0;singer 1;knows 0 1;owns 1 1;"
          + "singer 0;singer 2;".repeat(others / 2) + "singer 2;".repeat(others % 2);
      Checks.is("hearers", -Checks.valley(all + "sings 1*(singer=0)+field*(0<singer);fines 10+hearers;").purse(0, 1), 10 + others);
    }
  }
}
