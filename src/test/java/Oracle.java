import java.util.ArrayDeque;
import java.util.ArrayList;
import java.util.Arrays;
import java.util.HashSet;
import java.util.List;
import java.util.NoSuchElementException;
import java.util.Set;
import java.util.TreeSet;

/**
 * The document told a second time, as plainly as can be and sharing nothing with the class: a tree
 * for a rule, sets for what is known, whole copies for what is undone, all choices tried one by one.
 */
final class Oracle {
  static final int NONE = -1;

  interface Node {
    int value(int[] values);
  }

  static final class Fault extends RuntimeException {
    final int kind;
    final int place;

    Fault(int kind, int place) {
      super(null, null, false, false);
      this.kind = kind;
      this.place = place;
    }
  }

  record Token(char kind, String text, int place) {}

  /** Kinds: w word, n number, s sign, x none, e end. */
  static List<Token> tokens(String text) {
    List<Token> all = new ArrayList<>();
    int i = 0;
    while (i < text.length()) {
      char c = text.charAt(i);
      int j = i + 1;
      if (c == ' ' || c == '\n') {
        i++;
        continue;
      }
      if (c >= 'a' && c <= 'z') {
        while (j < text.length() && text.charAt(j) >= 'a' && text.charAt(j) <= 'z') j++;
        all.add(new Token('w', text.substring(i, j), i));
      } else if (c >= '0' && c <= '9') {
        while (j < text.length() && text.charAt(j) >= '0' && text.charAt(j) <= '9') j++;
        all.add(new Token('n', text.substring(i, j), i));
      } else {
        all.add(new Token(";()+-*/<=".indexOf(c) >= 0 ? 's' : 'x', text.substring(i, j), i));
      }
      i = j;
    }
    all.add(new Token('e', "", text.length()));
    return all;
  }

  static final class Valley {
    List<Integer> acres = new ArrayList<>();
    List<int[]> tunes = new ArrayList<>();
    List<int[]> paths = new ArrayList<>();
    List<int[]> ways = new ArrayList<>();
    List<Set<Integer>> known = new ArrayList<>();
    int[] owner = new int[8];
    Node sings;
    Node fines;

    Valley() {
      Arrays.fill(owner, NONE);
    }

    boolean pathBetween(int a, int b) {
      for (int[] p : paths) if (p[0] == a && p[1] == b || p[0] == b && p[1] == a) return true;
      return false;
    }

    /** Bellman's way: each path again and again. */
    int far(int a, int b) {
      int[] at = new int[acres.size()];
      Arrays.fill(at, NONE);
      at[a] = 0;
      for (int n = 0; n < acres.size(); n++) {
        for (int[] p : paths) {
          for (int turn = 0; turn < 2; turn++) {
            int from = p[turn], to = p[1 - turn];
            if (at[from] != NONE && (at[to] == NONE || at[from] + p[2] < at[to])) at[to] = at[from] + p[2];
          }
        }
      }
      return at[b];
    }
  }

  static final class Parser {
    final List<Token> tokens;
    int at = 0;
    Valley v = new Valley();

    Parser(String text) {
      tokens = tokens(text);
    }

    Token here() {
      return tokens.get(at);
    }

    boolean sees(String s) {
      return here().text.equals(s) && here().kind != 'e';
    }

    Fault bad(int kind) {
      return new Fault(kind, here().place);
    }

    int number() {
      if (here().kind != 'n') throw bad(1);
      if (here().text.length() > 4) throw bad(2);
      return Integer.parseInt(here().text);
    }

    int number(int least, int most) {
      int n = number();
      if (n < least || n > most) throw bad(2);
      at++;
      return n;
    }

    int told(int many) {
      int n = number();
      if (n >= many) throw bad(3);
      at++;
      return n;
    }

    void end() {
      if (!sees(";")) throw bad(1);
      at++;
    }

    Valley valley() {
      while (here().kind != 'e') line();
      return v;
    }

    void line() {
      if (here().kind != 'w') throw bad(1);
      switch (here().text) {
        case "field" -> fieldLine();
        case "path" -> pathLine();
        case "singer" -> singerLine();
        case "knows" -> {
          at++;
          int s = told(v.ways.size());
          int f = told(v.acres.size());
          if (v.known.get(s).contains(f)) throw new Fault(4, tokens.get(at - 1).place);
          end();
          v.known.get(s).add(f);
        }
        case "owns" -> {
          at++;
          int s = told(v.ways.size());
          int f = told(v.acres.size());
          if (v.owner[f] != NONE) throw new Fault(4, tokens.get(at - 1).place);
          end();
          v.owner[f] = s;
        }
        case "sings" -> {
          if (v.sings != null) throw bad(5);
          at++;
          v.sings = or(0, List.of("hour", "singer", "field", "known", "purse"));
          end();
        }
        case "fines" -> {
          if (v.fines != null) throw bad(5);
          at++;
          v.fines = or(0, List.of("far", "acres", "notes", "hearers", "purse"));
          end();
        }
        default -> throw bad(1);
      }
    }

    void fieldLine() {
      if (v.acres.size() == 8) throw bad(2);
      at++;
      int acres = number(1, 99);
      List<Integer> notes = new ArrayList<>();
      notes.add(number(0, 9));
      notes.add(number(0, 9));
      while (here().kind == 'n') {
        if (notes.size() == 6) throw bad(2);
        notes.add(number(0, 9));
      }
      end();
      v.acres.add(acres);
      v.tunes.add(notes.stream().mapToInt(i -> i).toArray());
    }

    void pathLine() {
      if (v.paths.size() == 14) throw bad(2);
      at++;
      int a = told(v.acres.size());
      int b = told(v.acres.size());
      if (a == b || v.pathBetween(a, b)) throw new Fault(4, tokens.get(at - 1).place);
      int steps = number(1, 20);
      end();
      v.paths.add(new int[] {a, b, steps});
    }

    void singerLine() {
      if (v.ways.size() == 6) throw bad(2);
      at++;
      List<Integer> way = new ArrayList<>();
      way.add(told(v.acres.size()));
      while (here().kind == 'n') {
        if (way.size() == 6) throw bad(2);
        way.add(told(v.acres.size()));
      }
      end();
      v.ways.add(way.stream().mapToInt(i -> i).toArray());
      v.known.add(new TreeSet<>(List.of(way.get(0))));
    }

    Node or(int around, List<String> names) {
      if (around == 6) throw bad(here().kind == 'n' || here().kind == 'w' || sees("(") ? 2 : 1);
      Node left = and(around, names);
      while (sees("or")) {
        at++;
        Node l = left, r = and(around, names);
        left = x -> (l.value(x) != 0 | r.value(x) != 0) ? 1 : 0;
      }
      return left;
    }

    Node and(int around, List<String> names) {
      Node left = not(around, names, 0);
      while (sees("and")) {
        at++;
        Node l = left, r = not(around, names, 0);
        left = x -> (l.value(x) != 0 & r.value(x) != 0) ? 1 : 0;
      }
      return left;
    }

    Node not(int around, List<String> names, int nots) {
      if (sees("not")) {
        if (nots == 6) throw bad(2);
        at++;
        Node n = not(around, names, nots + 1);
        return x -> n.value(x) != 0 ? 0 : 1;
      }
      Node l = sum(around, names);
      if (sees("<")) {
        at++;
        Node r = sum(around, names);
        return x -> l.value(x) < r.value(x) ? 1 : 0;
      }
      if (sees("=")) {
        at++;
        Node r = sum(around, names);
        return x -> l.value(x) == r.value(x) ? 1 : 0;
      }
      return l;
    }

    Node sum(int around, List<String> names) {
      Node left = product(around, names);
      while (sees("+") || sees("-")) {
        boolean plus = sees("+");
        at++;
        Node l = left, r = product(around, names);
        left = x -> plus ? l.value(x) + r.value(x) : l.value(x) - r.value(x);
      }
      return left;
    }

    Node product(int around, List<String> names) {
      Node left = part(around, names);
      while (sees("*") || sees("/")) {
        boolean times = sees("*");
        at++;
        Node l = left, r = part(around, names);
        left = x -> {
          int a = l.value(x), b = r.value(x);
          return times ? a * b : b == 0 ? 0 : (int) ((long) a / b);
        };
      }
      return left;
    }

    Node part(int around, List<String> names) {
      if (here().kind == 'n') {
        int n = number();
        at++;
        return x -> n;
      }
      if (here().kind == 'w') {
        int i = names.indexOf(here().text);
        if (i < 0) throw bad(3);
        at++;
        return x -> x[i];
      }
      if (!sees("(")) throw bad(1);
      at++;
      Node n = or(around + 1, names);
      if (!sees(")")) throw bad(1);
      at++;
      return n;
    }
  }

  /** All that hours and acts change. */
  static final class State {
    int hour;
    int trespasses;
    List<Set<Integer>> known = new ArrayList<>();
    int[] purse = new int[6];
    int[][] earth = new int[6][8];
    List<int[]> ways = new ArrayList<>();
    int[] owner = new int[8];

    State copy() {
      State c = new State();
      c.hour = hour;
      c.trespasses = trespasses;
      for (Set<Integer> k : known) c.known.add(new TreeSet<>(k));
      c.purse = purse.clone();
      for (int i = 0; i < 6; i++) c.earth[i] = earth[i].clone();
      for (int[] w : ways) c.ways.add(w.clone());
      c.owner = owner.clone();
      return c;
    }
  }

  record Heard(int field, int k, int tune) {}

  /** One song of an hour. */
  record Song(int singer, int place, int tune, boolean trespass) {}

  record Image(State now, List<State> acts, List<Heard> heard, int[] status) {}

  StringBuilder tape = new StringBuilder();
  int faultPlace = NONE;
  Valley v = new Valley();
  State now = new State();
  ArrayDeque<State> acts = new ArrayDeque<>();
  List<Heard> heard = new ArrayList<>();
  int[] status = new int[3];
  Image image;

  int fields() {
    return v.acres.size();
  }

  int singers() {
    return v.ways.size();
  }

  void needField(int f) {
    if (f < 0 || f >= fields()) throw new NoSuchElementException();
  }

  void needSinger(int s) {
    if (s < 0 || s >= singers()) throw new NoSuchElementException();
  }

  static void needWhat(int what, int most) {
    if (what < 0 || what > most) throw new NoSuchElementException();
  }

  static void needRange(int n, int least, int most) {
    if (n < least || n > most) throw new IllegalArgumentException();
  }

  int feed(int... words) {
    if (tape.length() + 20 > 700) return NONE;
    for (int w : words) for (int s = 24; s >= 0; s -= 8) tape.append((char) (w >>> s & 255));
    return tape.length();
  }

  int valley(int n) {
    if (n < 0 || n > tape.length()) throw new IllegalArgumentException();
    String text = tape.substring(0, n);
    tape.setLength(0);
    try {
      v = new Parser(text).valley();
    } catch (Fault f) {
      faultPlace = f.place;
      status[0]++;
      return f.kind;
    }
    faultPlace = NONE;
    now = new State();
    for (Set<Integer> k : v.known) now.known.add(new TreeSet<>(k));
    for (int[] w : v.ways) now.ways.add(w.clone());
    now.owner = v.owner.clone();
    acts.clear();
    heard.clear();
    image = null;
    return 0;
  }

  int fault() {
    return faultPlace;
  }

  int count(int what) {
    needWhat(what, 10);
    int[] all = {
      fields(), v.paths.size(), singers(), now.hour, now.trespasses, acts.size(), heard.size(), tape.length(),
      status[0], status[1], status[2]
    };
    return all[what];
  }

  static int place(State s, int singer) {
    int[] way = s.ways.get(singer);
    return way[s.hour % way.length];
  }

  boolean hears(int from, int in) {
    return from == in || v.pathBetween(from, in);
  }

  int bits(Iterable<Integer> all) {
    int b = 0;
    for (int i : all) b |= 1 << i;
    return b;
  }

  int field(int f, int what) {
    needField(f);
    needWhat(what, 5);
    int b = 0;
    switch (what) {
      case 0:
        return v.acres.get(f);
      case 1:
        return v.tunes.get(f).length;
      case 2:
        return now.owner[f];
      case 3:
        for (int s = 0; s < singers(); s++) if (place(now, s) == f) b |= 1 << s;
        return b;
      case 4:
        for (int g = 0; g < fields(); g++) {
          int[] lower = v.tunes.get(f).clone();
          for (int i = 0; i < lower.length; i++) lower[i] = Math.floorMod(lower[i] - 2, 10);
          if (Arrays.equals(lower, v.tunes.get(g))) b |= 1 << g;
        }
        return b;
      default:
        for (int g = 0; g < fields(); g++) if (v.pathBetween(f, g)) b |= 1 << g;
        return b;
    }
  }

  int note(int f, int i) {
    needField(f);
    if (i < 0 || i >= v.tunes.get(f).length) throw new NoSuchElementException();
    return v.tunes.get(f)[i];
  }

  int tuneOf(State s, int singer) {
    int t = place(s, singer);
    if (v.sings != null) {
      int got =
          v.sings.value(
              new int[] {s.hour, singer, place(s, singer), s.known.get(singer).size(), s.purse[singer]});
      t = got % fields();
      if (t < 0) t += fields();
    }
    return s.known.get(singer).contains(t) ? t : NONE;
  }

  boolean isTrespass(State s, int singer, int tune) {
    if (tune == place(s, singer)) return false;
    if (s.earth[singer][tune] > 0) return false;
    return s.owner[tune] != NONE && s.owner[tune] != singer;
  }

  int fine(State s, int singer, int tune, int hearers) {
    int far = v.far(place(s, singer), tune);
    if (far == NONE) far = 99;
    int got = far;
    if (v.fines != null) {
      got = v.fines.value(new int[] {far, v.acres.get(tune), v.tunes.get(tune).length, hearers, s.purse[singer]});
    }
    return got < 0 ? 0 : got > 99 ? 99 : got;
  }

  int singer(int s, int what) {
    needSinger(s);
    needWhat(what, 5);
    switch (what) {
      case 0:
        return now.ways.get(s).length;
      case 1:
        return place(now, s);
      case 2:
        return bits(now.known.get(s));
      case 3:
        return now.purse[s];
      case 4:
        int b = 0;
        for (int t : now.known.get(s)) if (!isTrespass(now, s, t)) b |= 1 << t;
        return b;
      default:
        return tuneOf(now, s);
    }
  }

  int way(int s, int i) {
    needSinger(s);
    if (i < 0 || i >= now.ways.get(s).length) throw new NoSuchElementException();
    return now.ways.get(s)[i];
  }

  int earth(int s, int f) {
    needSinger(s);
    needField(f);
    return now.earth[s][f];
  }

  List<Song> hour(State s, int mute) {
    List<Song> songs = new ArrayList<>();
    for (int i = 0; i < singers(); i++) {
      int t = i == mute ? NONE : tuneOf(s, i);
      if (t == NONE) continue;
      int place = place(s, i);
      List<Integer> hearers = new ArrayList<>();
      for (int o = 0; o < singers(); o++) if (o != i && hears(place(s, o), place)) hearers.add(o);
      boolean trespass = isTrespass(s, i, t);
      if (t != place && s.earth[i][t] > 0) {
        s.earth[i][t]--;
      } else if (trespass) {
        int pays = fine(s, i, t, hearers.size());
        s.purse[i] = Math.max(s.purse[i] - pays, -9999);
        s.purse[s.owner[t]] = Math.min(s.purse[s.owner[t]] + pays, 9999);
        s.trespasses++;
      }
      for (int o : hearers) s.known.get(o).add(t);
      songs.add(new Song(i, place, t, trespass));
    }
    s.hour++;
    return songs;
  }

  void act() {
    acts.addLast(now.copy());
    if (acts.size() > 40) acts.removeFirst();
  }

  int hours(int many) {
    if (many < 1 || many > 30 || now.hour + many > 9999) {
      status[1]++;
      return NONE;
    }
    act();
    for (int i = 0; i < many; i++) hour(now, NONE);
    return now.hour;
  }

  boolean teach(int s, int f) {
    needSinger(s);
    needField(f);
    if (now.known.get(s).contains(f)) {
      status[1]++;
      return false;
    }
    act();
    now.known.get(s).add(f);
    return true;
  }

  int load(int s, int f, int much) {
    needSinger(s);
    needField(f);
    if (much < 1 || much > 9) {
      status[1]++;
      return NONE;
    }
    act();
    now.earth[s][f] = Math.min(99, now.earth[s][f] + much);
    return now.earth[s][f];
  }

  int change(int s, int i, int f) {
    needSinger(s);
    needField(f);
    if (i < 0 || i >= now.ways.get(s).length) {
      status[1]++;
      return NONE;
    }
    act();
    int old = now.ways.get(s)[i];
    now.ways.get(s)[i] = f;
    return old;
  }

  boolean sell(int f, int s) {
    needField(f);
    if (s != NONE) needSinger(s);
    if (now.owner[f] == s) {
      status[1]++;
      return false;
    }
    act();
    now.owner[f] = s;
    return true;
  }

  int undo() {
    if (acts.isEmpty()) return NONE;
    now = acts.removeLast();
    return acts.size();
  }

  int sung(int s, int k) {
    needSinger(s);
    needRange(k, 1, 60);
    State f = now.copy();
    List<Song> last = List.of();
    for (int i = 0; i < k; i++) last = hour(f, NONE);
    for (Song g : last) if (g.singer == s) return g.tune;
    return NONE;
  }

  int learnt(int s, int t) {
    needSinger(s);
    needField(t);
    State f = now.copy();
    for (int h = 0; h <= 60; h++) {
      if (f.known.get(s).contains(t)) return h;
      hour(f, NONE);
    }
    return NONE;
  }

  int purse(int s, int hours) {
    needSinger(s);
    needRange(hours, 0, 60);
    State f = now.copy();
    for (int i = 0; i < hours; i++) hour(f, NONE);
    return f.purse[s];
  }

  int trespasses(int s, int hours, int what) {
    needSinger(s);
    needWhat(what, 1);
    needRange(hours, 0, 60);
    State f = now.copy();
    int many = 0;
    for (int i = 0; i < hours; i++) {
      for (Song g : hour(f, NONE)) {
        if (g.trespass && (what == 0 ? g.singer == s : now.owner[g.tune] == s)) many++;
      }
    }
    return many;
  }

  int allKnow(int t) {
    needField(t);
    int most = 0;
    for (int s = 0; s < singers(); s++) {
      int h = learnt(s, t);
      if (h == NONE) return NONE;
      most = Math.max(most, h);
    }
    return most;
  }

  int lost(int s) {
    needSinger(s);
    State with = now.copy(), without = now.copy();
    for (int i = 0; i < 30; i++) {
      hour(with, NONE);
      hour(without, s);
    }
    Set<Integer> gone = new HashSet<>();
    for (int o = 0; o < singers(); o++) if (o != s) gone.addAll(with.known.get(o));
    for (int o = 0; o < singers(); o++) if (o != s) gone.removeAll(without.known.get(o));
    return bits(gone);
  }

  int needed(int s, int t, int hours) {
    needSinger(s);
    needField(t);
    needRange(hours, 1, 60);
    for (int e = 0; e <= 99; e++) {
      State f = now.copy();
      f.earth[s][t] = e;
      boolean clean = true;
      for (int i = 0; i < hours && clean; i++) {
        for (Song g : hour(f, NONE)) if (g.trespass && g.singer == s && g.tune == t) clean = false;
      }
      if (clean) return e;
    }
    return NONE;
  }

  static boolean isRowOf(List<Integer> row, int[] tune) {
    int i = 0;
    for (int n : tune) if (i < row.size() && row.get(i) == n) i++;
    return i == row.size();
  }

  int common(int a, int b) {
    needField(a);
    needField(b);
    int[] one = v.tunes.get(a);
    int best = 0;
    for (int set = 0; set < 1 << one.length; set++) {
      List<Integer> row = new ArrayList<>();
      for (int i = 0; i < one.length; i++) if ((set >> i & 1) == 1) row.add(one[i]);
      if (row.size() > best && isRowOf(row, v.tunes.get(b))) best = row.size();
    }
    return best;
  }

  int nearest() {
    int best = NONE, couple = NONE;
    for (int a = 0; a < fields(); a++) {
      for (int b = a + 1; b < fields(); b++) {
        if (common(a, b) > best) {
          best = common(a, b);
          couple = 10 * a + b;
        }
      }
    }
    return couple;
  }

  int far(int a, int b) {
    needField(a);
    needField(b);
    return v.far(a, b);
  }

  /** All orders in which the fields can be come to. */
  int goRound(int[][] far, int start, int at, int seen) {
    if (seen == (1 << fields()) - 1) return far[at][start];
    int best = NONE;
    for (int f = 0; f < fields(); f++) {
      if ((seen >> f & 1) == 1 || far[at][f] == NONE) continue;
      int rest = goRound(far, start, f, seen | 1 << f);
      if (rest != NONE && (best == NONE || rest + far[at][f] < best)) best = rest + far[at][f];
    }
    return best;
  }

  int round(int field) {
    needField(field);
    int[][] far = new int[fields()][fields()];
    for (int a = 0; a < fields(); a++) for (int b = 0; b < fields(); b++) far[a][b] = v.far(a, b);
    return goRound(far, field, field, 1 << field);
  }

  int wedding(int what) {
    needWhat(what, 1);
    int best = NONE, where = NONE;
    for (int f = 0; f < fields(); f++) {
      int sum = 0;
      boolean all = true;
      for (int s = 0; s < singers(); s++) {
        int far = v.far(place(now, s), f);
        all &= far != NONE;
        sum += far;
      }
      if (all && (best == NONE || sum < best)) {
        best = sum;
        where = f;
      }
    }
    return what == 0 ? where : best;
  }

  int give(int f, int[] heirs) {
    if (f == fields()) return Arrays.stream(heirs).max().getAsInt();
    int best = Integer.MAX_VALUE;
    for (int h = 0; h < heirs.length; h++) {
      heirs[h] += v.acres.get(f);
      best = Math.min(best, give(f + 1, heirs));
      heirs[h] -= v.acres.get(f);
    }
    return best;
  }

  int heirs(int many) {
    needRange(many, 1, 4);
    return give(0, new int[many]);
  }

  int hear(int f, int k, int t) {
    needField(f);
    if (t != NONE) needField(t);
    if (k < 1 || k > 30 || heard.size() == 8) {
      status[2]++;
      return NONE;
    }
    heard.add(new Heard(f, k, t));
    return heard.size();
  }

  boolean allHeardSo(State from) {
    State f = from.copy();
    for (int k = 1; k <= 30; k++) {
      List<Song> songs = hour(f, NONE);
      for (Heard h : heard) {
        if (h.k != k) continue;
        boolean any = false, that = false;
        for (Song g : songs) {
          any |= g.place == h.field;
          that |= g.place == h.field && g.tune == h.tune;
        }
        if (h.tune == NONE ? any : !that) return false;
      }
    }
    return true;
  }

  List<int[]> steps() {
    List<int[]> all = new ArrayList<>();
    for (int s = 0; s < singers(); s++) {
      for (int i = 0; i < now.ways.get(s).length; i++) {
        for (int f = 0; f < fields(); f++) {
          if (now.ways.get(s)[i] == f) continue;
          State other = now.copy();
          other.ways.get(s)[i] = f;
          if (allHeardSo(other)) all.add(new int[] {s, i, f});
        }
      }
    }
    return all;
  }

  int otherwise(int what) {
    needWhat(what, 2);
    if (what == 2) return allHeardSo(now) ? 1 : 0;
    List<int[]> all = steps();
    if (what == 0) return all.size();
    return all.isEmpty() ? NONE : all.get(0)[0] * 100 + all.get(0)[1] * 10 + all.get(0)[2];
  }

  int listen(int what) {
    needWhat(what, 1);
    List<Set<Integer>> unlike = new ArrayList<>();
    for (int f = 0; f < fields(); f++) unlike.add(new HashSet<>());
    List<int[]> all = steps();
    for (int[] step : all) {
      State other = now.copy();
      other.ways.get(step[0])[step[1]] = step[2];
      List<Song> songs = hour(other, NONE);
      for (int f = 0; f < fields(); f++) {
        int least = 99;
        for (Song g : songs) if (g.place == f) least = Math.min(least, g.tune);
        unlike.get(f).add(least);
      }
    }
    if (all.isEmpty()) return what == 0 ? NONE : 0;
    int best = 0;
    for (int f = 1; f < fields(); f++) if (unlike.get(f).size() > unlike.get(best).size()) best = f;
    return what == 0 ? best : unlike.get(best).size();
  }

  void forget() {
    heard.clear();
  }

  int gain(int s, int t, int mine, int yours) {
    if (mine == 0) return 0;
    int pays = isTrespass(now, s, t) ? fine(now, s, t, 0) : 0;
    return (yours == 1 ? v.acres.get(t) / 2 : v.acres.get(t)) - pays;
  }

  int game(int a, int b, int t, int what) {
    needSinger(a);
    needSinger(b);
    needField(t);
    needWhat(what, 1);
    if (a == b || !now.known.get(a).contains(t) || !now.known.get(b).contains(t)) throw new IllegalArgumentException();
    List<Integer> rest = new ArrayList<>();
    for (int x = 0; x < 2; x++) {
      for (int y = 0; y < 2; y++) {
        if (gain(a, t, 1 - x, y) > gain(a, t, x, y)) continue;
        if (gain(b, t, 1 - y, x) > gain(b, t, y, x)) continue;
        rest.add(10 * x + y);
      }
    }
    return what == 0 ? rest.size() : rest.isEmpty() ? NONE : rest.get(0);
  }

  int larks(int seed, int n, int what) {
    needWhat(what, 2);
    needRange(n, 0, 60);
    State f = now.copy();
    for (int i = 0; i < n; i++) {
      if (singers() > 0) {
        seed = seed * 1103515245 + 12345;
        int tune = (seed >>> 16) % 32768 % fields();
        seed = seed * 1103515245 + 12345;
        int who = (seed >>> 16) % 32768 % singers();
        for (int s = 0; s < singers(); s++) if (hears(place(f, s), place(f, who))) f.known.get(s).add(tune);
      }
      hour(f, NONE);
    }
    int known = 0, most = Integer.MIN_VALUE;
    for (int s = 0; s < singers(); s++) {
      known += f.known.get(s).size();
      most = Math.max(most, f.purse[s]);
    }
    return what == 0 ? known : what == 1 ? f.trespasses - now.trespasses : singers() == 0 ? 0 : most;
  }

  void image() {
    List<State> copies = new ArrayList<>();
    for (State s : acts) copies.add(s.copy());
    image = new Image(now.copy(), copies, new ArrayList<>(heard), status.clone());
  }

  boolean restore() {
    if (image == null) return false;
    now = image.now.copy();
    acts.clear();
    for (State s : image.acts) acts.addLast(s.copy());
    heard = new ArrayList<>(image.heard);
    status = image.status.clone();
    return true;
  }
}
