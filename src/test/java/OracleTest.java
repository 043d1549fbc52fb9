import java.util.ArrayList;
import java.util.List;
import java.util.Random;
import java.util.function.LongSupplier;

/** Runs of random calls: the class and the oracle must answer alike, call by call. */
public final class OracleTest {
  private static final int RUNS = 6000;
  private static final int MOST_CALLS = 120;

  private final Random random;
  private final List<String> calls = new ArrayList<>();
  private SongFields x = new SongFields();
  private Oracle o = new Oracle();
  private boolean alike = true;

  private OracleTest(long seed) {
    random = new Random(seed);
  }

  public static void main(String[] args) {
    int passed = 0;
    int failed = 0;
    for (int run = 0; run < RUNS && failed < 5; run++) {
      OracleTest test = new OracleTest(run);
      test.run(run);
      if (test.alike) {
        passed++;
      } else {
        failed++;
        System.out.println("run " + run + ":");
        for (String c : test.calls) {
          System.out.println("  " + c);
        }
      }
    }
    System.out.println("OracleTest: " + passed + " passed, " + failed + " failed");
    if (failed != 0) {
      System.exit(1);
    }
  }

  private void run(int run) {
    int kind = run % 4;
    if (kind == 0) {
      for (int i = 0; i < 40 && alike; i++) {
        tell(new Texts(random).faulty());
      }
      return;
    }
    int texts = 1 + random.nextInt(3);
    for (int t = 0; t < texts && alike; t++) {
      if (random.nextInt(12) == 0) {
        someCalls(5);
      }
      tell(new Texts(random).valley());
      someCalls(MOST_CALLS / texts);
    }
  }

  private void tell(String text) {
    int n = Math.min(700, text.length());
    for (int i = 0; i < n && alike; i += 20) {
      int[] w = new int[5];
      for (int j = 0; j < 20; j++) {
        w[j / 4] = w[j / 4] << 8 | (i + j < n ? text.charAt(i + j) & 255 : 32);
      }
      same("feed", () -> x.feed(w[0], w[1], w[2], w[3], w[4]), () -> o.feed(w));
    }
    calls.add("text: " + text);
    same("valley " + n, () -> x.valley(n), () -> o.valley(n));
    same("fault", () -> x.fault(), () -> o.fault());
    for (int i = 0; i < 12; i++) {
      int what = i;
      same("count " + i, () -> x.count(what), () -> o.count(what));
    }
  }

  private static String outcome(LongSupplier call) {
    try {
      return Long.toString(call.getAsLong());
    } catch (RuntimeException e) {
      return e.getClass().getSimpleName();
    }
  }

  private void same(String name, LongSupplier mine, LongSupplier due) {
    if (!alike) {
      return;
    }
    String got = outcome(mine);
    String want = outcome(due);
    alike = got.equals(want);
    calls.add(name + " -> " + got + (alike ? "" : ", due is " + want));
  }

  private int pick(int least, int most) {
    return least + random.nextInt(most - least + 1);
  }

  /** Mostly one that there is, sometimes one just outside. */
  private int upTo(int many) {
    return many == 0 || random.nextInt(25) == 0 ? pick(-2, many + 1) : random.nextInt(many);
  }

  private void someCalls(int many) {
    for (int i = 0; i < many && alike; i++) {
      oneCall(random.nextInt(44));
    }
  }

  private void oneCall(int which) {
    int s = upTo(o.singers());
    int s2 = upTo(o.singers());
    int f = upTo(o.fields());
    int g = upTo(o.fields());
    int what = upTo(6);
    int two = upTo(2);
    int three = upTo(3);
    switch (which) {
      case 0 -> {
        int c = upTo(11);
        same("count " + c, () -> x.count(c), () -> o.count(c));
      }
      case 1 -> same("field " + f + " " + what, () -> x.field(f, what), () -> o.field(f, what));
      case 2 -> {
        int i = pick(-1, 7);
        same("note " + f + " " + i, () -> x.note(f, i), () -> o.note(f, i));
      }
      case 3, 4, 5 -> same("singer " + s + " " + what, () -> x.singer(s, what), () -> o.singer(s, what));
      case 6 -> {
        int i = pick(-1, 7);
        same("way " + s + " " + i, () -> x.way(s, i), () -> o.way(s, i));
      }
      case 7 -> same("earth " + s + " " + f, () -> x.earth(s, f), () -> o.earth(s, f));
      case 8, 9 -> {
        int h = random.nextInt(20) == 0 ? pick(-2, 33) : pick(1, 30);
        same("hours " + h, () -> x.hours(h), () -> o.hours(h));
      }
      case 10, 11 -> {
        same("hours 1", () -> x.hours(1), () -> o.hours(1));
      }
      case 12 -> same("teach " + s + " " + f, () -> x.teach(s, f) ? 1 : 0, () -> o.teach(s, f) ? 1 : 0);
      case 13, 14 -> {
        int m = random.nextInt(8) == 0 ? pick(-1, 11) : pick(1, 9);
        same("load " + s + " " + f + " " + m, () -> x.load(s, f, m), () -> o.load(s, f, m));
      }
      case 15, 16 -> {
        int i = random.nextInt(8) == 0 ? pick(-1, 7) : pick(0, 2);
        same("change " + s + " " + i + " " + f, () -> x.change(s, i, f), () -> o.change(s, i, f));
      }
      case 17, 18 -> {
        int to = random.nextInt(5) == 0 ? pick(-2, -1) : s;
        same("sell " + f + " " + to, () -> x.sell(f, to) ? 1 : 0, () -> o.sell(f, to) ? 1 : 0);
      }
      case 19, 20 -> same("undo", () -> x.undo(), () -> o.undo());
      case 21 -> {
        int k = pick(random.nextInt(9) == 0 ? -1 : 1, random.nextInt(9) == 0 ? 62 : 60);
        same("sung " + s + " " + k, () -> x.sung(s, k), () -> o.sung(s, k));
      }
      case 22 -> same("learnt " + s + " " + f, () -> x.learnt(s, f), () -> o.learnt(s, f));
      case 23 -> {
        int k = pick(random.nextInt(9) == 0 ? -1 : 0, random.nextInt(9) == 0 ? 62 : 60);
        same("purse " + s + " " + k, () -> x.purse(s, k), () -> o.purse(s, k));
      }
      case 24 -> {
        int k = pick(random.nextInt(9) == 0 ? -1 : 0, random.nextInt(9) == 0 ? 62 : 60);
        same("trespasses " + s + " " + k + " " + two, () -> x.trespasses(s, k, two), () -> o.trespasses(s, k, two));
      }
      case 25 -> same("allKnow " + f, () -> x.allKnow(f), () -> o.allKnow(f));
      case 26 -> same("lost " + s, () -> x.lost(s), () -> o.lost(s));
      case 27 -> {
        int k = pick(random.nextInt(9) == 0 ? 0 : 1, random.nextInt(9) == 0 ? 62 : 60);
        same("needed " + s + " " + f + " " + k, () -> x.needed(s, f, k), () -> o.needed(s, f, k));
      }
      case 28 -> same("common " + f + " " + g, () -> x.common(f, g), () -> o.common(f, g));
      case 29 -> same("nearest", () -> x.nearest(), () -> o.nearest());
      case 30 -> same("far " + f + " " + g, () -> x.far(f, g), () -> o.far(f, g));
      case 31 -> {
        if (o.fields() < 8 || random.nextInt(6) == 0) {
          same("round " + f, () -> x.round(f), () -> o.round(f));
        }
      }
      case 32 -> same("wedding " + two, () -> x.wedding(two), () -> o.wedding(two));
      case 33 -> {
        int m = o.fields() < 7 || random.nextInt(6) == 0 ? pick(0, 5) : 2;
        same("heirs " + m, () -> x.heirs(m), () -> o.heirs(m));
      }
      case 34, 35 -> hear(f, g);
      case 36, 37 -> same("otherwise " + three, () -> x.otherwise(three), () -> o.otherwise(three));
      case 38 -> same("listen " + two, () -> x.listen(two), () -> o.listen(two));
      case 39 -> {
        x.forget();
        o.forget();
        calls.add("forget");
      }
      case 40 -> same("game " + s + " " + s2 + " " + f + " " + two, () -> x.game(s, s2, f, two), () -> o.game(s, s2, f, two));
      case 41 -> {
        int seed = random.nextInt();
        int n = pick(random.nextInt(9) == 0 ? -1 : 0, random.nextInt(9) == 0 ? 62 : 60);
        same("larks " + seed + " " + n + " " + three, () -> x.larks(seed, n, three), () -> o.larks(seed, n, three));
      }
      case 42 -> {
        x.image();
        o.image();
        calls.add("image");
      }
      default -> same("restore", () -> x.restore() ? 1 : 0, () -> o.restore() ? 1 : 0);
    }
  }

  /** Mostly something that comes so, that there may be steps which keep it. */
  private void hear(int f, int g) {
    int k = random.nextInt(9) == 0 ? pick(-1, 32) : pick(1, 6);
    int tune = random.nextInt(3) == 0 ? pick(-2, -1) : g;
    int place = f;
    if (o.singers() > 0 && k >= 1 && k <= 30 && random.nextInt(4) != 0) {
      int s = random.nextInt(o.singers());
      int[] way = o.now.ways.get(s);
      place = way[(o.now.hour + k - 1) % way.length];
      tune = o.sung(s, k);
    }
    int at = place;
    int what = tune;
    same("hear " + at + " " + k + " " + what, () -> x.hear(at, k, what), () -> o.hear(at, k, what));
  }

  /** Texts by chance: right ones, and right ones with something put, taken or changed. */
  private static final class Texts {
    private final Random random;
    private final StringBuilder out = new StringBuilder();
    private int fields;
    private int singers;

    Texts(Random random) {
      this.random = random;
    }

    private int pick(int least, int most) {
      return least + random.nextInt(most - least + 1);
    }

    String valley() {
      int mostFields = random.nextInt(20) == 0 ? 0 : pick(1, 8);
      boolean rulesFirst = random.nextBoolean();
      if (rulesFirst) {
        rules();
      }
      List<Integer> paths = new ArrayList<>();
      int span = random.nextInt(3) == 0 ? 10 : 3;
      for (fields = 0; fields < mostFields; fields++) {
        out.append("field ").append(pick(1, 99));
        int notes = pick(2, 6);
        for (int i = 0; i < notes; i++) {
          out.append(' ').append(span == 3 ? 2 * random.nextInt(5) : random.nextInt(span));
        }
        out.append(random.nextInt(5) == 0 ? " ;\n" : ";");
      }
      int tries = fields < 2 ? 0 : pick(0, 16);
      for (int i = 0; i < tries; i++) {
        int a = random.nextInt(fields);
        int b = random.nextInt(fields);
        if (a != b && !paths.contains(a * 10 + b) && !paths.contains(b * 10 + a) && paths.size() < 14) {
          paths.add(a * 10 + b);
          out.append("path ").append(a).append(' ').append(b).append(' ').append(pick(1, 20)).append(';');
        }
      }
      singerLines();
      if (!rulesFirst) {
        rules();
      }
      return out.length() > 700 ? new Texts(random).valley() : out.toString();
    }

    private void singerLines() {
      int most = fields == 0 ? 0 : random.nextInt(15) == 0 ? 0 : pick(1, 6);
      for (singers = 0; singers < most; singers++) {
        out.append("singer");
        int places = pick(1, random.nextInt(3) == 0 ? 6 : 3);
        for (int i = 0; i < places; i++) {
          out.append(' ').append(random.nextInt(fields));
        }
        out.append(';');
      }
      boolean[] owned = new boolean[8];
      boolean[][] known = new boolean[6][8];
      for (int i = 0; i < 8 && singers > 0; i++) {
        int s = random.nextInt(singers);
        int f = random.nextInt(fields);
        if (!owned[f] && random.nextBoolean()) {
          owned[f] = true;
          out.append("owns ").append(s).append(' ').append(f).append(';');
        }
        int f2 = random.nextInt(fields);
        if (!known[s][f2] && random.nextInt(3) == 0 && f2 != firstOf(s)) {
          known[s][f2] = true;
          out.append("knows ").append(s).append(' ').append(f2).append(';');
        }
      }
    }

    /** The first field of a way that was told. */
    private int firstOf(int singer) {
      int at = -1;
      for (int i = 0; i <= singer; i++) {
        at = out.indexOf("singer ", at + 1);
        while (at > 0 && out.charAt(at - 1) != ';' && out.charAt(at - 1) != '\n') {
          at = out.indexOf("singer ", at + 1);
        }
      }
      return out.charAt(at + 7) - '0';
    }

    private void rules() {
      String[] ofSings = {"hour", "singer", "field", "known", "purse"};
      String[] ofFines = {"far", "acres", "notes", "hearers", "purse"};
      if (random.nextInt(4) != 0) {
        out.append("sings ").append(random.nextInt(4) == 0 ? "field+" + random.nextInt(3) : or(0, ofSings)).append(';');
      }
      if (random.nextInt(3) != 0) {
        out.append("fines ").append(or(0, ofFines)).append(';');
      }
    }

    private String many(String left, String joiner, String right) {
      return left + joiner + right;
    }

    private String or(int depth, String[] names) {
      String all = and(depth, names);
      while (random.nextInt(8) == 0) {
        all = many(all, " or ", and(depth, names));
      }
      return all;
    }

    private String and(int depth, String[] names) {
      String all = not(depth, names);
      while (random.nextInt(8) == 0) {
        all = many(all, " and ", not(depth, names));
      }
      return all;
    }

    private String not(int depth, String[] names) {
      StringBuilder nots = new StringBuilder();
      if (random.nextInt(10) == 0) {
        int many = pick(1, 6);
        for (int i = 0; i < many; i++) {
          nots.append("not ");
        }
      }
      String all = nots + sum(depth, names);
      if (random.nextInt(6) == 0) {
        all = many(all, random.nextBoolean() ? "<" : " = ", sum(depth, names));
      }
      return all;
    }

    private String sum(int depth, String[] names) {
      String all = product(depth, names);
      while (random.nextInt(3) == 0) {
        all = many(all, random.nextBoolean() ? "+" : "-", product(depth, names));
      }
      return all;
    }

    private String product(int depth, String[] names) {
      String all = part(depth, names);
      while (random.nextInt(4) == 0) {
        all = many(all, random.nextBoolean() ? "*" : "/", part(depth, names));
      }
      return all;
    }

    private String part(int depth, String[] names) {
      if (depth < 5 && random.nextInt(5) == 0) {
        return "(" + or(depth + 1, names) + ")";
      }
      if (random.nextInt(2) == 0) {
        return names[random.nextInt(names.length)];
      }
      return Integer.toString(random.nextInt(8) == 0 ? random.nextInt(10000) : random.nextInt(10));
    }

    String faulty() {
      if (random.nextInt(6) == 0) {
        return deep();
      }
      StringBuilder text = new StringBuilder(valley());
      int changes = pick(1, 2);
      for (int i = 0; i < changes; i++) {
        changeOne(text);
      }
      return text.toString();
    }

    private void changeOne(StringBuilder text) {
      List<Oracle.Token> tokens = Oracle.tokens(text.toString());
      Oracle.Token t = tokens.get(random.nextInt(tokens.size()));
      int end = t.place() + t.text().length();
      String[] some = {
        "field", "path", "singer", "knows", "owns", "sings", "fines", "not", "or", "and", "hour", "purse", "far", "x",
        "0", "1", "3", "7", "8", "9", "20", "21", "99", "100", "00001", "12345", "0009", ";", "(", ")", "+", "-", "*",
        "/", "<", "=", "A", "\t", "\u00e9", "not not not not not not not", "((((((1))))))", "(((((1)))))",
        "field 1 1 1;", "singer 0;", "path 0 1 1;", "owns 0 0;", "knows 0 0;", "sings 1;", "fines 1;", "1 1 1 1 1 1 1"
      };
      String one = some[random.nextInt(some.length)];
      switch (random.nextInt(5)) {
        case 0 -> text.delete(t.place(), end);
        case 1 -> text.insert(t.place(), " " + one + " ");
        case 2 -> text.replace(t.place(), end, one);
        case 3 -> text.insert(end, " " + t.text() + " ");
        default -> text.setLength(random.nextInt(text.length() + 1));
      }
    }

    /** Parentheses and nots at the edge. */
    private String deep() {
      StringBuilder text = new StringBuilder(random.nextBoolean() ? "sings " : "fines ");
      String[] some = {"(", "(", "(", "(", "(", "not ", "not ", "not ", "1", "purse ", "+", ")", ")", "and ", "or ", "<", ";", "12345"};
      int many = pick(1, 20);
      for (int i = 0; i < many; i++) {
        text.append(some[random.nextInt(some.length)]);
      }
      return text.append(random.nextBoolean() ? ";" : "").toString();
    }
  }
}
