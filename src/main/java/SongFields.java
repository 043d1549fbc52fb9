import java.util.Arrays;
import java.util.NoSuchElementException;

/** Fields with a tune each, singers on their ways, and what follows from them hour by hour. */
public final class SongFields {
  public static final int NONE = -1;

  private static final int MOST_BYTES = 700;
  /** No token makes more code than it has bytes, so a text's rules always have room. */
  private static final int MOST_CODE = MOST_BYTES + 1;
  private static final int MOST_FIELDS = 8;
  private static final int MOST_NOTES = 6;
  private static final int MOST_PATHS = 14;
  private static final int MOST_SINGERS = 6;
  private static final int MOST_PLACES = 6;
  private static final int MOST_ACTS = 40;
  private static final int MOST_HEARD = 8;
  private static final int MOST_AHEAD = 60;
  private static final int MOST_HOURS = 30;
  private static final int LAST_HOUR = 9999;
  private static final int MOST_EARTH = 99;
  private static final int MOST_FINE = 99;
  private static final int MOST_PURSE = 9999;

  /** Steps between fields without a way: above every sum of real ones, far below an overflow. */
  private static final int NO_WAY = 1000000;

  // Where things stand in a row: all that hours and acts change is one row, so that one copy keeps it.
  private static final int HOUR = 0;
  private static final int TRESPASSES = 1;
  private static final int KNOWN = 2;
  private static final int PURSE = KNOWN + MOST_SINGERS;
  private static final int EARTH = PURSE + MOST_SINGERS;
  private static final int WAY = EARTH + MOST_SINGERS * MOST_FIELDS;
  private static final int OWNER = WAY + MOST_SINGERS * MOST_PLACES;
  private static final int ROW = OWNER + MOST_FIELDS;

  private static final int REFUSED_TEXTS = 0;
  private static final int REFUSED_ACTS = 1;
  private static final int REFUSED_HEARD = 2;

  private final byte[] tape = new byte[MOST_BYTES];
  private int tapeLength;
  private int faultPlace;
  private Valley valley;
  private Valley draft;
  private final Teller teller;
  private final Story story;
  private final Story kept;
  private boolean hasImage;
  private final Course course;
  private final Guess guess;
  private final Survey survey;

  public SongFields() {
    valley = new Valley();
    draft = new Valley();
    teller = new Teller(tape, draft);
    story = new Story();
    kept = new Story();
    course = new Course(valley);
    guess = new Guess(course);
    survey = new Survey();
    faultPlace = NONE;
  }

  public int feed(int a, int b, int c, int d, int e) {
    if (tapeLength + 20 > MOST_BYTES) {
      return NONE;
    }
    putBytes(a);
    putBytes(b);
    putBytes(c);
    putBytes(d);
    putBytes(e);
    return tapeLength;
  }

  private void putBytes(int word) {
    for (int shift = 24; shift >= 0; shift -= 8) {
      if (tapeLength < MOST_BYTES) {
        tape[tapeLength] = (byte) (word >> shift);
        tapeLength++;
      }
    }
  }

  public int valley(int n) throws IllegalArgumentException {
    if (n < 0 || n > tapeLength) {
      throw new IllegalArgumentException("the tape has not so many bytes");
    }
    int found = teller.tell(n, draft);
    tapeLength = 0;
    faultPlace = teller.place;
    if (found != 0) {
      story.refuse(REFUSED_TEXTS);
      return found;
    }
    Valley old = valley;
    valley = draft;
    draft = old;
    story.startAnew(valley);
    hasImage = false;
    return 0;
  }

  public int fault() {
    return faultPlace;
  }

  public int count(int what) throws NoSuchElementException {
    switch (what) {
      case 0:
        return valley.fields;
      case 1:
        return valley.paths;
      case 2:
        return valley.singers;
      case 3:
        return story.row[HOUR];
      case 4:
        return story.row[TRESPASSES];
      case 5:
        return story.acts;
      case 6:
        return story.heardCount;
      case 7:
        return tapeLength;
      case 8:
      case 9:
      case 10:
        return story.refused[what - 8];
      default:
        throw new NoSuchElementException("no such count");
    }
  }

  public int field(int field, int what) throws NoSuchElementException {
    needField(field);
    switch (what) {
      case 0:
        return valley.acres[field];
      case 1:
        return valley.noteCount[field];
      case 2:
        return story.row[OWNER + field];
      case 3:
        return whoIsIn(field);
      case 4:
        return survey.thirds(valley, field);
      case 5:
        return valley.beside[field];
      default:
        throw new NoSuchElementException("no such thing of a field");
    }
  }

  private int whoIsIn(int field) {
    int bits = 0;
    for (int s = 0; s < valley.singers; s++) {
      if (valley.placeOf(story.row, s) == field) {
        bits |= 1 << s;
      }
    }
    return bits;
  }

  public int note(int field, int i) throws NoSuchElementException {
    needField(field);
    if (i < 0 || i >= valley.noteCount[field]) {
      throw new NoSuchElementException("no such note");
    }
    return valley.notes[field * MOST_NOTES + i];
  }

  public int singer(int singer, int what) throws NoSuchElementException {
    needSinger(singer);
    switch (what) {
      case 0:
        return valley.wayLength[singer];
      case 1:
        return valley.placeOf(story.row, singer);
      case 2:
        return story.row[KNOWN + singer];
      case 3:
        return story.row[PURSE + singer];
      case 4:
        course.begin(valley, story.row);
        return course.freeTunes(singer);
      case 5:
        course.begin(valley, story.row);
        return course.tuneOf(singer);
      default:
        throw new NoSuchElementException("no such thing of a singer");
    }
  }

  public int way(int singer, int i) throws NoSuchElementException {
    needSinger(singer);
    if (i < 0 || i >= valley.wayLength[singer]) {
      throw new NoSuchElementException("no such place of a way");
    }
    return story.row[WAY + singer * MOST_PLACES + i];
  }

  public int earth(int singer, int field) throws NoSuchElementException {
    needSinger(singer);
    needField(field);
    return story.row[EARTH + singer * MOST_FIELDS + field];
  }

  public int hours(int many) {
    if (many < 1 || many > MOST_HOURS || story.row[HOUR] + many > LAST_HOUR) {
      story.refuse(REFUSED_ACTS);
      return NONE;
    }
    story.keepAct();
    course.begin(valley, story.row);
    course.go(many);
    System.arraycopy(course.row, 0, story.row, 0, ROW);
    return story.row[HOUR];
  }

  public boolean teach(int singer, int field) throws NoSuchElementException {
    needSinger(singer);
    needField(field);
    if ((story.row[KNOWN + singer] >> field & 1) != 0) {
      story.refuse(REFUSED_ACTS);
      return false;
    }
    story.keepAct();
    story.row[KNOWN + singer] |= 1 << field;
    return true;
  }

  public int load(int singer, int field, int much) throws NoSuchElementException {
    needSinger(singer);
    needField(field);
    if (much < 1 || much > 9) {
      story.refuse(REFUSED_ACTS);
      return NONE;
    }
    story.keepAct();
    int at = EARTH + singer * MOST_FIELDS + field;
    story.row[at] = Math.min(MOST_EARTH, story.row[at] + much);
    return story.row[at];
  }

  public int change(int singer, int i, int field) throws NoSuchElementException {
    needSinger(singer);
    needField(field);
    if (i < 0 || i >= valley.wayLength[singer]) {
      story.refuse(REFUSED_ACTS);
      return NONE;
    }
    story.keepAct();
    int at = WAY + singer * MOST_PLACES + i;
    int old = story.row[at];
    story.row[at] = field;
    return old;
  }

  public boolean sell(int field, int singer) throws NoSuchElementException {
    needField(field);
    if (singer != NONE) {
      needSinger(singer);
    }
    if (story.row[OWNER + field] == singer) {
      story.refuse(REFUSED_ACTS);
      return false;
    }
    story.keepAct();
    story.row[OWNER + field] = singer;
    return true;
  }

  public int undo() {
    return story.undoAct() ? story.acts : NONE;
  }

  public int sung(int singer, int k) throws NoSuchElementException, IllegalArgumentException {
    needSinger(singer);
    needHours(k, 1);
    course.begin(valley, story.row);
    course.go(k);
    return course.sung[singer];
  }

  public int learnt(int singer, int field) throws NoSuchElementException {
    needSinger(singer);
    needField(field);
    return behindHowMany(1 << singer, field);
  }

  /** Behind how many hours all of these singers (bits) know the tune. */
  private int behindHowMany(int who, int field) {
    course.begin(valley, story.row);
    for (int h = 0; h <= MOST_AHEAD; h++) {
      if (course.know(who, field)) {
        return h;
      }
      course.go(1);
    }
    return NONE;
  }

  public int purse(int singer, int hours) throws NoSuchElementException, IllegalArgumentException {
    needSinger(singer);
    needHours(hours, 0);
    course.begin(valley, story.row);
    course.go(hours);
    return course.row[PURSE + singer];
  }

  public int trespasses(int singer, int hours, int what) throws NoSuchElementException, IllegalArgumentException {
    needSinger(singer);
    needWhat(what, 1);
    needHours(hours, 0);
    course.begin(valley, story.row);
    course.go(hours);
    return what == 0 ? course.trespassesBy[singer] : course.trespassesAgainst(singer);
  }

  public int allKnow(int field) throws NoSuchElementException {
    needField(field);
    return behindHowMany((1 << valley.singers) - 1, field);
  }

  public int lost(int singer) throws NoSuchElementException {
    needSinger(singer);
    // Without that singer the others have but each other to learn from: together they would know
    // then what they know now.
    course.begin(valley, story.row);
    int without = course.knownByOthers(singer);
    course.go(MOST_HOURS);
    return course.knownByOthers(singer) & ~without;
  }

  public int needed(int singer, int field, int hours) throws NoSuchElementException, IllegalArgumentException {
    needSinger(singer);
    needField(field);
    needHours(hours, 1);
    int owner = story.row[OWNER + field];
    if (owner == NONE || owner == singer) {
      return 0;
    }
    // A full barrow outlasts 60 hours, and with less all goes alike up to the first song without
    // earth, which is a trespass: so what is used up of a full one is what is needed.
    course.begin(valley, story.row);
    int at = EARTH + singer * MOST_FIELDS + field;
    course.row[at] = MOST_EARTH;
    course.go(hours);
    return MOST_EARTH - course.row[at];
  }

  public int common(int field, int other) throws NoSuchElementException {
    needField(field);
    needField(other);
    return survey.inCommon(valley, field, other);
  }

  public int nearest() {
    return survey.nearestCouple(valley);
  }

  public int far(int field, int other) throws NoSuchElementException {
    needField(field);
    needField(other);
    int steps = valley.steps[field * MOST_FIELDS + other];
    return steps >= NO_WAY ? NONE : steps;
  }

  public int round(int field) throws NoSuchElementException {
    needField(field);
    return survey.tour(valley);
  }

  public int wedding(int what) throws NoSuchElementException {
    needWhat(what, 1);
    return survey.meeting(valley, story.row, what == 0);
  }

  public int heirs(int many) throws IllegalArgumentException {
    if (many < 1 || many > 4) {
      throw new IllegalArgumentException("not 1 to 4 heirs");
    }
    return survey.share(valley, many);
  }

  public int hear(int field, int k, int tune) throws NoSuchElementException {
    needField(field);
    if (tune != NONE) {
      needField(tune);
    }
    if (k < 1 || k > MOST_HOURS || story.heardCount >= MOST_HEARD) {
      story.refuse(REFUSED_HEARD);
      return NONE;
    }
    story.addHeard(field, k, tune);
    return story.heardCount;
  }

  public int otherwise(int what) throws NoSuchElementException {
    needWhat(what, 2);
    if (what == 2) {
      return guess.holdsAsItIs(valley, story) ? 1 : 0;
    }
    guess.explore(valley, story);
    return what == 0 ? guess.found : guess.first;
  }

  public int listen(int what) throws NoSuchElementException {
    needWhat(what, 1);
    guess.explore(valley, story);
    int best = guess.mostUnlike();
    if (what == 0) {
      return best;
    }
    return best == NONE ? 0 : Integer.bitCount(guess.tunesIn[best]);
  }

  public void forget() {
    story.heardCount = 0;
  }

  public int game(int singer, int other, int field, int what)
      throws NoSuchElementException, IllegalArgumentException {
    needSinger(singer);
    needSinger(other);
    needField(field);
    needWhat(what, 1);
    course.begin(valley, story.row);
    if (singer == other || !course.know(1 << singer | 1 << other, field)) {
      throw new IllegalArgumentException("two are needed who know the tune");
    }
    int many = 0;
    int first = NONE;
    for (int choice = 0; choice < 4; choice++) {
      if (rests(singer, other, field, choice >> 1, choice & 1)) {
        many++;
        first = first == NONE ? (choice >> 1) * 10 + (choice & 1) : first;
      }
    }
    return what == 0 ? many : first;
  }

  private boolean rests(int singer, int other, int field, int mine, int yours) {
    return gain(singer, field, mine, yours) >= gain(singer, field, 1 - mine, yours)
        && gain(other, field, yours, mine) >= gain(other, field, 1 - yours, mine);
  }

  /** What one gains by a choice, given the other one's; the course stands at this hour. */
  private int gain(int singer, int field, int own, int others) {
    if (own == 0) {
      return 0;
    }
    int acres = others == 0 ? valley.acres[field] : valley.acres[field] / 2;
    return course.wouldTrespass(singer, field) ? acres - course.fineOf(singer, field, 0) : acres;
  }

  public int larks(int seed, int n, int what) throws NoSuchElementException, IllegalArgumentException {
    needWhat(what, 2);
    needHours(n, 0);
    course.begin(valley, story.row);
    course.goWithLarks(seed, n);
    if (what == 0) {
      return course.knownTogether();
    }
    return what == 1 ? course.row[TRESPASSES] - story.row[TRESPASSES] : course.greatestPurse();
  }

  public void image() {
    kept.copy(story);
    hasImage = true;
  }

  public boolean restore() {
    if (!hasImage) {
      return false;
    }
    story.copy(kept);
    return true;
  }

  private void needField(int field) {
    if (field < 0 || field >= valley.fields) {
      throw new NoSuchElementException("no such field");
    }
  }

  private void needSinger(int singer) {
    if (singer < 0 || singer >= valley.singers) {
      throw new NoSuchElementException("no such singer");
    }
  }

  private void needWhat(int what, int most) {
    if (what < 0 || what > most) {
      throw new NoSuchElementException("no such what");
    }
  }

  private void needHours(int hours, int least) {
    if (hours < least || hours > MOST_AHEAD) {
      throw new IllegalArgumentException("not so many hours");
    }
  }

  /** The text's tokens, one at a time. A sign's kind is its own byte. */
  private static final class Tokens {
    static final int END = 0;
    static final int WORD = 1;
    static final int NUMBER = 2;
    static final int STRAY = 3;

    private final byte[] text;
    private int length;
    private int next;
    int kind;
    int start;
    int number;

    Tokens(byte[] tape) {
      text = tape;
    }

    void begin(int n) {
      length = Math.min(n, text.length);
      next = 0;
      advance();
    }

    void advance() {
      while (next < length && (text[next] == 32 || text[next] == 10)) {
        next++;
      }
      start = next;
      if (next >= length) {
        kind = END;
        return;
      }
      kind = kindOf(text[next]);
      number = 0;
      do {
        if (kind == NUMBER && next - start < 4) {
          number = number * 10 + text[next] - '0';
        }
        next++;
      } while ((kind == WORD || kind == NUMBER) && next < length && kindOf(text[next]) == kind);
    }

    private static int kindOf(int sign) {
      if (sign >= 'a' && sign <= 'z') {
        return WORD;
      }
      if (sign >= '0' && sign <= '9') {
        return NUMBER;
      }
      switch (sign) {
        case ';':
        case '(':
        case ')':
        case '+':
        case '-':
        case '*':
        case '/':
        case '<':
        case '=':
          return sign;
        default:
          return STRAY;
      }
    }

    boolean isTooLong() {
      return kind == NUMBER && next - start > 4;
    }

    boolean is(String word) {
      if (kind != WORD || next - start != word.length()) {
        return false;
      }
      for (int i = 0; i < word.length() && start + i < length; i++) {
        if (text[start + i] != word.charAt(i)) {
          return false;
        }
      }
      return true;
    }
  }

  /** Reads a text into a valley, line by line, up to the first fault. */
  private static final class Teller {
    private final Tokens tokens;
    private final Phrase phrase;
    private Valley valley;
    private int fault;
    int place;

    Teller(byte[] tape, Valley draft) {
      tokens = new Tokens(tape);
      phrase = new Phrase(tokens);
      valley = draft;
    }

    /** 0, or the fault, whose place is kept. */
    int tell(int n, Valley draft) {
      valley = draft;
      valley.clear();
      fault = 0;
      place = NONE;
      tokens.begin(n);
      for (int i = 0; i <= MOST_BYTES && fault == 0 && tokens.kind != Tokens.END; i++) {
        if (tokens.is("field")) {
          fieldLine();
        } else if (tokens.is("path")) {
          pathLine();
        } else if (tokens.is("singer")) {
          singerLine();
        } else if (tokens.is("knows")) {
          knowsLine();
        } else if (tokens.is("owns")) {
          ownsLine();
        } else if (tokens.is("sings")) {
          ruleLine(valley.sings, true);
        } else if (tokens.is("fines")) {
          ruleLine(valley.fines, false);
        } else {
          refuse(1);
        }
      }
      if (fault == 0) {
        valley.measure();
      }
      return fault;
    }

    /** The first fault stays: behind it nothing is read. */
    private int refuse(int which) {
      if (fault == 0) {
        fault = which;
        place = tokens.start;
      }
      return 0;
    }

    private void pass() {
      if (fault == 0) {
        tokens.advance();
      }
    }

    private void passEnd() {
      if (fault == 0 && tokens.kind != ';') {
        refuse(1);
      }
      pass();
    }

    /** The number that stands here, which is not passed: it may have a later fault. */
    private int numberHere(int least, int most, int faultOutside) {
      if (fault != 0) {
        return 0;
      }
      if (tokens.kind != Tokens.NUMBER) {
        return refuse(1);
      }
      if (tokens.isTooLong()) {
        return refuse(2);
      }
      if (tokens.number < least || tokens.number > most) {
        return refuse(faultOutside);
      }
      return tokens.number;
    }

    private int fieldHere() {
      return numberHere(0, valley.fields - 1, 3);
    }

    private int singerHere() {
      return numberHere(0, valley.singers - 1, 3);
    }

    private void fieldLine() {
      int f = valley.fields;
      if (f >= MOST_FIELDS) {
        refuse(2);
        return;
      }
      pass();
      valley.acres[f] = numberHere(1, 99, 2);
      pass();
      int many = 0;
      for (int i = 0; i <= MOST_NOTES && fault == 0 && (i < 2 || tokens.kind == Tokens.NUMBER); i++) {
        if (i == MOST_NOTES) {
          refuse(2);
          return;
        }
        valley.notes[f * MOST_NOTES + i] = numberHere(0, 9, 2);
        pass();
        many++;
      }
      passEnd();
      if (fault == 0) {
        valley.noteCount[f] = many;
        valley.fields++;
      }
    }

    private void pathLine() {
      if (valley.paths >= MOST_PATHS) {
        refuse(2);
        return;
      }
      pass();
      int one = fieldHere();
      pass();
      int other = fieldHere();
      if (fault == 0 && (one == other || (valley.beside[one] >> other & 1) != 0)) {
        refuse(4);
      }
      pass();
      int steps = numberHere(1, 20, 2);
      pass();
      passEnd();
      if (fault == 0) {
        valley.addPath(one, other, steps);
      }
    }

    private void singerLine() {
      int s = valley.singers;
      if (s >= MOST_SINGERS) {
        refuse(2);
        return;
      }
      pass();
      int many = 0;
      for (int i = 0; i <= MOST_PLACES && fault == 0 && (i < 1 || tokens.kind == Tokens.NUMBER); i++) {
        if (i == MOST_PLACES) {
          refuse(2);
          return;
        }
        valley.way[s * MOST_PLACES + i] = fieldHere();
        pass();
        many++;
      }
      passEnd();
      if (fault == 0) {
        valley.wayLength[s] = many;
        valley.known[s] = 1 << valley.way[s * MOST_PLACES];
        valley.singers++;
      }
    }

    private void knowsLine() {
      pass();
      int s = singerHere();
      pass();
      int f = fieldHere();
      if (fault == 0 && (valley.known[s] >> f & 1) != 0) {
        refuse(4);
      }
      pass();
      passEnd();
      if (fault == 0) {
        valley.known[s] |= 1 << f;
      }
    }

    private void ownsLine() {
      pass();
      int s = singerHere();
      pass();
      int f = fieldHere();
      if (fault == 0 && valley.owner[f] != NONE) {
        refuse(4);
      }
      pass();
      passEnd();
      if (fault == 0) {
        valley.owner[f] = s;
      }
    }

    private void ruleLine(Rule rule, boolean ofSinger) {
      if (rule.told) {
        refuse(5);
        return;
      }
      pass();
      int found = phrase.read(rule, ofSinger, valley.codeEnd());
      if (found != 0) {
        refuse(found);
      }
      passEnd();
    }
  }

  /** Reads an EXPR into a rule's code, operands ahead of what joins them; ends at the semicolon. */
  private static final class Phrase {
    private static final int GOES_ON = 0;
    private static final int ENDS = -1;
    private static final int MOST_NOTS = 6;
    private static final int MOST_AROUND = 6;
    /** A parenthesis among the operators that wait: no operator's number. */
    private static final int OPEN = 0;

    private final Tokens tokens;
    /** At each of six depths: or, and, six nots, a test, a sum, a product, a parenthesis. */
    private final int[] waiting = new int[96];
    private int waits;
    private int open;
    private int nots;
    private boolean partIsDue;
    private boolean notMayStand;

    Phrase(Tokens source) {
      tokens = source;
    }

    /** 0, or the fault at the token that stands. */
    int read(Rule rule, boolean ofSinger, int from) {
      waits = 0;
      open = 0;
      rule.begin(from);
      expectPart(true);
      int state = GOES_ON;
      for (int i = 0; i <= MOST_BYTES && state == GOES_ON; i++) {
        state = partIsDue ? readPart(rule, ofSinger) : readBehindPart(rule);
        if (state == GOES_ON) {
          tokens.advance();
        }
      }
      rule.told = state == ENDS;
      return state == ENDS ? 0 : state;
    }

    private void expectPart(boolean withNot) {
      partIsDue = true;
      notMayStand = withNot;
      nots = 0;
    }

    private int readPart(Rule rule, boolean ofSinger) {
      int kind = tokens.kind;
      if (kind != Tokens.NUMBER && kind != Tokens.WORD && kind != '(') {
        return 1;
      }
      if (open >= MOST_AROUND || tokens.isTooLong()) {
        return 2;
      }
      if (kind == '(') {
        hold(OPEN);
        open++;
        expectPart(true);
        return GOES_ON;
      }
      if (notMayStand && tokens.is("not")) {
        return readNot();
      }
      int code = kind == Tokens.NUMBER ? tokens.number : valueHere(ofSinger);
      if (code == NONE) {
        return 3;
      }
      rule.add(code);
      partIsDue = false;
      return GOES_ON;
    }

    private int readNot() {
      if (nots >= MOST_NOTS) {
        return 2;
      }
      nots++;
      hold(Rule.NOT);
      return GOES_ON;
    }

    /** The code of the value's word that stands here; NONE: it is no value of this rule. */
    private int valueHere(boolean ofSinger) {
      if (tokens.is("purse")) {
        return Rule.VALUE - 4;
      }
      if (tokens.is(ofSinger ? "hour" : "far")) {
        return Rule.VALUE;
      }
      if (tokens.is(ofSinger ? "singer" : "acres")) {
        return Rule.VALUE - 1;
      }
      if (tokens.is(ofSinger ? "field" : "notes")) {
        return Rule.VALUE - 2;
      }
      if (tokens.is(ofSinger ? "known" : "hearers")) {
        return Rule.VALUE - 3;
      }
      return NONE;
    }

    private int readBehindPart(Rule rule) {
      if (tokens.kind == ')' && open > 0) {
        release(rule, 1);
        waits--;
        open--;
        return GOES_ON;
      }
      if (tokens.kind == ';' && open == 0) {
        release(rule, 1);
        return ENDS;
      }
      int operator = operatorHere();
      if (operator == NONE) {
        return 1;
      }
      int rank = rankOf(operator);
      boolean isTest = rank == rankOf(Rule.LESS);
      // A test takes no second test: one that waits there is not joined, it makes the sign a fault.
      release(rule, isTest ? rank + 1 : rank);
      if (isTest && waits > 0 && rankOf(waiting[waits - 1]) == rank) {
        return 1;
      }
      hold(operator);
      expectPart(operator == Rule.OR || operator == Rule.AND);
      return GOES_ON;
    }

    private int operatorHere() {
      switch (tokens.kind) {
        case Tokens.WORD:
          return tokens.is("or") ? Rule.OR : tokens.is("and") ? Rule.AND : NONE;
        case '<':
          return Rule.LESS;
        case '=':
          return Rule.EQUAL;
        case '+':
          return Rule.PLUS;
        case '-':
          return Rule.MINUS;
        case '*':
          return Rule.TIMES;
        case '/':
          return Rule.DIVIDED;
        default:
          return NONE;
      }
    }

    private static int rankOf(int operator) {
      switch (operator) {
        case Rule.OR:
          return 1;
        case Rule.AND:
          return 2;
        case Rule.NOT:
          return 3;
        case Rule.LESS:
        case Rule.EQUAL:
          return 4;
        case Rule.PLUS:
        case Rule.MINUS:
          return 5;
        case Rule.TIMES:
        case Rule.DIVIDED:
          return 6;
        default:
          return 0;
      }
    }

    private void hold(int operator) {
      if (waits < waiting.length) {
        waiting[waits] = operator;
        waits++;
      }
    }

    /** What waits on top with this rank or above it has all its operands now. */
    private void release(Rule rule, int rank) {
      while (waits > 0 && rankOf(waiting[waits - 1]) >= rank) {
        waits--;
        rule.add(waiting[waits]);
      }
    }
  }

  /** An EXPR as code: a number is itself, all else is below -1, operators behind their operands. */
  private static final class Rule {
    static final int OR = -2;
    static final int AND = -3;
    static final int NOT = -4;
    static final int LESS = -5;
    static final int EQUAL = -6;
    static final int PLUS = -7;
    static final int MINUS = -8;
    static final int TIMES = -9;
    static final int DIVIDED = -10;
    /** The first of the five values; the others are below it. */
    static final int VALUE = -20;

    boolean told;
    private final int[] code;
    private int from;
    private int to;
    /** At each of six depths five operands may wait for an operator, and one more is at hand. */
    private final int[] stack = new int[40];

    Rule(int[] sharedCode) {
      code = sharedCode;
    }

    void begin(int place) {
      told = false;
      from = place;
      to = place;
    }

    int end() {
      return to;
    }

    /** 'not' has no code of its own: what is equal to 0 is 1, all else 0. */
    void add(int what) {
      if (to >= 0 && to < code.length - 1) {
        code[to] = what == NOT ? 0 : what;
        to++;
        if (what == NOT) {
          code[to] = EQUAL;
          to++;
        }
      }
    }

    int answer(int[] values) {
      int top = 0;
      for (int i = from; i < to; i++) {
        int what = code[i];
        if (what >= 0 || what <= VALUE) {
          if (top >= stack.length || VALUE - what >= values.length) {
            return 0;
          }
          stack[top] = what >= 0 ? what : values[VALUE - what];
          top++;
        } else if (top >= 2) {
          top--;
          int a = stack[top - 1];
          int b = stack[top];
          switch (what) {
            case OR:
              a = a != 0 || b != 0 ? 1 : 0;
              break;
            case AND:
              a = a != 0 && b != 0 ? 1 : 0;
              break;
            case LESS:
              a = a < b ? 1 : 0;
              break;
            case EQUAL:
              a = a == b ? 1 : 0;
              break;
            case PLUS:
              a = a + b;
              break;
            case MINUS:
              a = a - b;
              break;
            case TIMES:
              a = a * b;
              break;
            default:
              a = b == 0 ? 0 : a / b;
          }
          stack[top - 1] = a;
        }
      }
      return top > 0 ? stack[top - 1] : 0;
    }
  }

  /** What a text tells: it stays as it is until another text. */
  private static final class Valley {
    int fields;
    int paths;
    int singers;
    final int[] acres = new int[MOST_FIELDS];
    final int[] noteCount = new int[MOST_FIELDS];
    final int[] notes = new int[MOST_FIELDS * MOST_NOTES];
    /** Fields that have a path to each (bits). */
    final int[] beside = new int[MOST_FIELDS];
    /** Steps of the shortest ways, NO_WAY without one. */
    final int[] steps = new int[MOST_FIELDS * MOST_FIELDS];
    final int[] wayLength = new int[MOST_SINGERS];
    final int[] way = new int[MOST_SINGERS * MOST_PLACES];
    final int[] known = new int[MOST_SINGERS];
    final int[] owner = new int[MOST_FIELDS];
    final Rule sings;
    final Rule fines;

    Valley() {
      int[] code = new int[MOST_CODE];
      sings = new Rule(code);
      fines = new Rule(code);
    }

    void clear() {
      fields = 0;
      paths = 0;
      singers = 0;
      Arrays.fill(beside, 0);
      Arrays.fill(steps, NO_WAY);
      Arrays.fill(owner, NONE);
      sings.begin(0);
      fines.begin(0);
    }

    /** The two rules share one row for their code, one behind the other. */
    int codeEnd() {
      return Math.max(sings.end(), fines.end());
    }

    void addPath(int one, int other, int length) {
      beside[one] |= 1 << other;
      beside[other] |= 1 << one;
      steps[one * MOST_FIELDS + other] = length;
      steps[other * MOST_FIELDS + one] = length;
      paths++;
    }

    /** Turns the paths' steps into those of the shortest ways. */
    void measure() {
      for (int f = 0; f < fields; f++) {
        steps[f * MOST_FIELDS + f] = 0;
      }
      for (int by = 0; by < fields; by++) {
        for (int f = 0; f < fields; f++) {
          for (int g = 0; g < fields; g++) {
            int round = steps[f * MOST_FIELDS + by] + steps[by * MOST_FIELDS + g];
            if (round < steps[f * MOST_FIELDS + g]) {
              steps[f * MOST_FIELDS + g] = round;
            }
          }
        }
      }
    }

    /** The field in which a singer is in the row's hour. */
    int placeOf(int[] row, int singer) {
      int many = wayLength[singer];
      return many < 1 ? 0 : row[WAY + singer * MOST_PLACES + row[HOUR] % many];
    }
  }

  /** What an image keeps: the row of now, the rows ahead of the acts, what is heard, what was refused. */
  private static final class Story {
    final int[] row = new int[ROW];
    private final int[][] before = new int[MOST_ACTS][ROW];
    /** The slot of the oldest act: the slots go round. */
    private int oldest;
    int acts;
    int heardCount;
    final int[] heardField = new int[MOST_HEARD];
    final int[] heardHour = new int[MOST_HEARD];
    final int[] heardTune = new int[MOST_HEARD];
    final int[] refused = new int[3];

    void startAnew(Valley valley) {
      Arrays.fill(row, 0);
      System.arraycopy(valley.known, 0, row, KNOWN, MOST_SINGERS);
      System.arraycopy(valley.way, 0, row, WAY, MOST_SINGERS * MOST_PLACES);
      System.arraycopy(valley.owner, 0, row, OWNER, MOST_FIELDS);
      oldest = 0;
      acts = 0;
      heardCount = 0;
    }

    void refuse(int kind) {
      refused[kind]++;
    }

    /** Ahead of an act: how it is now. The oldest act gives way to the 41st. */
    void keepAct() {
      if (acts >= MOST_ACTS) {
        oldest = (oldest + 1) % MOST_ACTS;
        acts = MOST_ACTS - 1;
      }
      System.arraycopy(row, 0, before[(oldest + acts) % MOST_ACTS], 0, ROW);
      acts++;
    }

    boolean undoAct() {
      if (acts < 1) {
        return false;
      }
      acts--;
      System.arraycopy(before[(oldest + acts) % MOST_ACTS], 0, row, 0, ROW);
      return true;
    }

    void addHeard(int field, int hour, int tune) {
      if (heardCount < MOST_HEARD) {
        heardField[heardCount] = field;
        heardHour[heardCount] = hour;
        heardTune[heardCount] = tune;
        heardCount++;
      }
    }

    int lastHeardHour() {
      int last = 0;
      for (int i = 0; i < heardCount; i++) {
        last = Math.max(last, heardHour[i]);
      }
      return last;
    }

    void copy(Story other) {
      System.arraycopy(other.row, 0, row, 0, ROW);
      oldest = other.oldest;
      acts = other.acts;
      for (int i = 0; i < acts; i++) {
        int slot = (oldest + i) % MOST_ACTS;
        System.arraycopy(other.before[slot], 0, before[slot], 0, ROW);
      }
      heardCount = other.heardCount;
      System.arraycopy(other.heardField, 0, heardField, 0, MOST_HEARD);
      System.arraycopy(other.heardHour, 0, heardHour, 0, MOST_HEARD);
      System.arraycopy(other.heardTune, 0, heardTune, 0, MOST_HEARD);
      System.arraycopy(other.refused, 0, refused, 0, 3);
    }
  }

  /** Hours that go by on a row of its own. */
  private static final class Course {
    private Valley valley;
    final int[] row = new int[ROW];
    /** Where each is in the latest hour that was begun, and what each sang in it. */
    final int[] place = new int[MOST_SINGERS];
    final int[] sung = new int[MOST_SINGERS];
    final int[] trespassesBy = new int[MOST_SINGERS];
    private final int[] trespassesOn = new int[MOST_FIELDS];
    private final int[] values = new int[5];

    Course(Valley first) {
      valley = first;
    }

    void begin(Valley now, int[] from) {
      valley = now;
      System.arraycopy(from, 0, row, 0, ROW);
      Arrays.fill(trespassesBy, 0);
      Arrays.fill(trespassesOn, 0);
      findPlaces();
    }

    private void findPlaces() {
      for (int s = 0; s < valley.singers; s++) {
        place[s] = valley.placeOf(row, s);
      }
    }

    void go(int many) {
      for (int h = 0; h < many; h++) {
        goHour();
      }
    }

    void goHour() {
      findPlaces();
      for (int s = 0; s < valley.singers; s++) {
        sung[s] = tuneOf(s);
        if (sung[s] != NONE) {
          letSing(s, sung[s]);
        }
      }
      row[HOUR]++;
    }

    /** The tune that one sings, where one is and with what one knows; NONE: silent. */
    int tuneOf(int singer) {
      int tune = place[singer];
      if (valley.sings.told && valley.fields > 0) {
        values[0] = row[HOUR];
        values[1] = singer;
        values[2] = place[singer];
        values[3] = Integer.bitCount(row[KNOWN + singer]);
        values[4] = row[PURSE + singer];
        tune = Math.floorMod(valley.sings.answer(values), valley.fields);
      }
      return (row[KNOWN + singer] >> tune & 1) != 0 ? tune : NONE;
    }

    private void letSing(int singer, int tune) {
      int hearers = spread(place[singer], tune, singer);
      int barrow = EARTH + singer * MOST_FIELDS + tune;
      if (wouldTrespass(singer, tune)) {
        int fine = fineOf(singer, tune, hearers);
        int owner = row[OWNER + tune];
        row[PURSE + singer] = Math.max(-MOST_PURSE, row[PURSE + singer] - fine);
        row[PURSE + owner] = Math.min(MOST_PURSE, row[PURSE + owner] + fine);
        row[TRESPASSES]++;
        trespassesBy[singer]++;
        trespassesOn[tune]++;
      } else if (tune != place[singer] && row[barrow] > 0) {
        row[barrow]--;
      }
    }

    /** All who hear a tune in a field, but who sings it, know it: how many hear it. */
    private int spread(int field, int tune, int singer) {
      int near = valley.beside[field] | 1 << field;
      int hearers = 0;
      for (int s = 0; s < valley.singers; s++) {
        if (s != singer && (near >> place[s] & 1) != 0) {
          row[KNOWN + s] |= 1 << tune;
          hearers++;
        }
      }
      return hearers;
    }

    boolean wouldTrespass(int singer, int tune) {
      int owner = row[OWNER + tune];
      return tune != place[singer]
          && row[EARTH + singer * MOST_FIELDS + tune] == 0
          && owner != NONE
          && owner != singer;
    }

    int fineOf(int singer, int tune, int hearers) {
      int steps = valley.steps[place[singer] * MOST_FIELDS + tune];
      int fine = steps >= NO_WAY ? 99 : steps;
      if (valley.fines.told) {
        values[0] = fine;
        values[1] = valley.acres[tune];
        values[2] = valley.noteCount[tune];
        values[3] = hearers;
        values[4] = row[PURSE + singer];
        fine = valley.fines.answer(values);
      }
      return Math.max(0, Math.min(MOST_FINE, fine));
    }

    int freeTunes(int singer) {
      int bits = 0;
      for (int t = 0; t < valley.fields; t++) {
        if ((row[KNOWN + singer] >> t & 1) != 0 && !wouldTrespass(singer, t)) {
          bits |= 1 << t;
        }
      }
      return bits;
    }

    /** Whether all of these singers (bits) know a tune. */
    boolean know(int who, int tune) {
      for (int s = 0; s < valley.singers; s++) {
        if ((who >> s & 1) != 0 && (row[KNOWN + s] >> tune & 1) == 0) {
          return false;
        }
      }
      return true;
    }

    /** Tunes that somebody else knows. */
    int knownByOthers(int singer) {
      int bits = 0;
      for (int s = 0; s < valley.singers; s++) {
        if (s != singer) {
          bits |= row[KNOWN + s];
        }
      }
      return bits;
    }

    int trespassesAgainst(int owner) {
      int many = 0;
      for (int f = 0; f < valley.fields; f++) {
        if (row[OWNER + f] == owner) {
          many += trespassesOn[f];
        }
      }
      return many;
    }

    /** The least tune that is sung in a field in the latest hour; NONE: none is. */
    int leastSungIn(int field) {
      int least = NONE;
      for (int s = 0; s < valley.singers; s++) {
        if (place[s] == field && sung[s] != NONE && (least == NONE || sung[s] < least)) {
          least = sung[s];
        }
      }
      return least;
    }

    /** Whether the latest hour was so: the tune (NONE: no tune) sung in the field. */
    boolean wasSungIn(int field, int tune) {
      if (tune == NONE) {
        return leastSungIn(field) == NONE;
      }
      for (int s = 0; s < valley.singers; s++) {
        if (place[s] == field && sung[s] == tune) {
          return true;
        }
      }
      return false;
    }

    void goWithLarks(int seed, int many) {
      int drawn = seed;
      for (int h = 0; h < many; h++) {
        if (valley.fields > 0 && valley.singers > 0) {
          drawn = nextSeed(drawn);
          int tune = (drawn >> 16 & 32767) % valley.fields;
          drawn = nextSeed(drawn);
          int singer = (drawn >> 16 & 32767) % valley.singers;
          findPlaces();
          spread(place[singer], tune, NONE);
        }
        goHour();
      }
    }

    private static int nextSeed(int seed) {
      return seed * 1103515245 + 12345;
    }

    int knownTogether() {
      int many = 0;
      for (int s = 0; s < valley.singers; s++) {
        many += Integer.bitCount(row[KNOWN + s]);
      }
      return many;
    }

    int greatestPurse() {
      if (valley.singers < 1) {
        return 0;
      }
      int most = row[PURSE];
      for (int s = 1; s < valley.singers; s++) {
        most = Math.max(most, row[PURSE + s]);
      }
      return most;
    }
  }

  /** Which single steps, were they otherwise, would make all that is heard so. */
  private static final class Guess {
    private final Course course;
    int found;
    int first;
    /** Of each field: the least tunes that are sung in it in the next hour, by all found (bits, none is bit 0). */
    final int[] tunesIn = new int[MOST_FIELDS];
    private final int[] leastIn = new int[MOST_FIELDS];
    private int fields;

    Guess(Course shared) {
      course = shared;
    }

    void explore(Valley valley, Story story) {
      found = 0;
      first = NONE;
      fields = valley.fields;
      Arrays.fill(tunesIn, 0);
      for (int s = 0; s < valley.singers; s++) {
        for (int i = 0; i < valley.wayLength[s]; i++) {
          int at = WAY + s * MOST_PLACES + i;
          for (int f = 0; f < fields; f++) {
            if (f != story.row[at] && holds(valley, story, at, f)) {
              addFound(s * 100 + i * 10 + f);
            }
          }
        }
      }
    }

    private void addFound(int step) {
      first = found == 0 ? step : first;
      found++;
      for (int f = 0; f < fields; f++) {
        tunesIn[f] |= 1 << leastIn[f] + 1;
      }
    }

    boolean holdsAsItIs(Valley valley, Story story) {
      fields = valley.fields;
      return holds(valley, story, NONE, NONE);
    }

    /** Whether all that is heard comes so, were a place of a way (NONE: no place) that field. */
    private boolean holds(Valley valley, Story story, int at, int field) {
      course.begin(valley, story.row);
      if (at >= WAY && at < OWNER) {
        course.row[at] = field;
      }
      int last = Math.max(1, story.lastHeardHour());
      for (int h = 1; h <= last; h++) {
        course.goHour();
        for (int i = 0; i < story.heardCount; i++) {
          if (story.heardHour[i] == h && !course.wasSungIn(story.heardField[i], story.heardTune[i])) {
            return false;
          }
        }
        for (int f = 0; h == 1 && f < fields; f++) {
          leastIn[f] = course.leastSungIn(f);
        }
      }
      return true;
    }

    int mostUnlike() {
      int best = NONE;
      for (int f = 0; f < fields && found > 0; f++) {
        if (best == NONE || Integer.bitCount(tunesIn[f]) > Integer.bitCount(tunesIn[best])) {
          best = f;
        }
      }
      return best;
    }
  }

  /** What the fields, their tunes and their paths alone tell. */
  private static final class Survey {
    /** For the tour: the steps to each field by each set of fields; the heirs and the tunes use it too. */
    private final int[] best = new int[MOST_FIELDS << MOST_FIELDS];

    int thirds(Valley valley, int field) {
      int bits = 0;
      for (int f = 0; f < valley.fields; f++) {
        if (isThirdLower(valley, f, field)) {
          bits |= 1 << f;
        }
      }
      return bits;
    }

    private static boolean isThirdLower(Valley valley, int lower, int upper) {
      int many = valley.noteCount[upper];
      if (valley.noteCount[lower] != many) {
        return false;
      }
      for (int i = 0; i < many; i++) {
        if (valley.notes[lower * MOST_NOTES + i] != (valley.notes[upper * MOST_NOTES + i] + 8) % 10) {
          return false;
        }
      }
      return true;
    }

    int inCommon(Valley valley, int one, int other) {
      int ones = valley.noteCount[one];
      int others = valley.noteCount[other];
      for (int j = 0; j <= others; j++) {
        best[j] = 0;
      }
      for (int i = 0; i < ones; i++) {
        int aslant = 0;
        for (int j = 0; j < others; j++) {
          int above = best[j + 1];
          boolean same = valley.notes[one * MOST_NOTES + i] == valley.notes[other * MOST_NOTES + j];
          best[j + 1] = same ? aslant + 1 : Math.max(above, best[j]);
          aslant = above;
        }
      }
      return best[others];
    }

    int nearestCouple(Valley valley) {
      int most = NONE;
      int couple = NONE;
      for (int f = 0; f < valley.fields; f++) {
        for (int g = f + 1; g < valley.fields; g++) {
          int both = inCommon(valley, f, g);
          if (both > most) {
            most = both;
            couple = f * 10 + g;
          }
        }
      }
      return couple;
    }

    /** A round is as long from each of its fields, so it is looked for from field 0. */
    int tour(Valley valley) {
      int sets = 1 << valley.fields;
      Arrays.fill(best, NO_WAY);
      best[MOST_FIELDS] = 0;
      for (int set = 1; set < sets; set += 2) {
        for (int at = 0; at < valley.fields; at++) {
          if (best[set * MOST_FIELDS + at] < NO_WAY) {
            goOn(valley, set, at);
          }
        }
      }
      int least = NO_WAY;
      for (int at = 0; at < valley.fields; at++) {
        least = Math.min(least, best[(sets - 1) * MOST_FIELDS + at] + valley.steps[at * MOST_FIELDS]);
      }
      return least >= NO_WAY ? NONE : least;
    }

    private void goOn(Valley valley, int set, int at) {
      int sofar = best[set * MOST_FIELDS + at];
      for (int f = 0; f < valley.fields; f++) {
        if ((set >> f & 1) == 0) {
          int there = (set | 1 << f) * MOST_FIELDS + f;
          best[there] = Math.min(best[there], sofar + valley.steps[at * MOST_FIELDS + f]);
        }
      }
    }

    int meeting(Valley valley, int[] row, boolean where) {
      int least = NO_WAY;
      int field = NONE;
      for (int f = 0; f < valley.fields; f++) {
        int all = 0;
        for (int s = 0; s < valley.singers; s++) {
          all += valley.steps[valley.placeOf(row, s) * MOST_FIELDS + f];
        }
        if (all < least) {
          least = all;
          field = f;
        }
      }
      return where || field == NONE ? field : least;
    }

    int share(Valley valley, int heirs) {
      int sets = 1 << valley.fields;
      // The first rows are what so many heirs have at most, those behind are each set's acres.
      for (int set = 0; set < sets; set++) {
        int acres = 0;
        for (int f = 0; f < valley.fields; f++) {
          acres += (set >> f & 1) * valley.acres[f];
        }
        best[set] = acres;
        best[sets + set] = acres;
      }
      for (int heir = 1; heir < heirs; heir++) {
        // From the whole down, so that all parts of a set are still those of one heir fewer.
        for (int set = sets - 1; set > 0; set--) {
          for (int part = set; part > 0; part = part - 1 & set) {
            best[set] = Math.min(best[set], Math.max(best[sets + part], best[set & ~part]));
          }
        }
      }
      return best[sets - 1];
    }
  }
}
