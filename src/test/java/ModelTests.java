import java.math.BigInteger;
import java.util.ArrayList;
import java.util.List;
import java.util.Random;
import java.util.regex.Matcher;
import java.util.regex.Pattern;

/**
 * Long random runs of calls, each answer against a slow model that reads the document another way:
 * texts by regular expressions, SPEEDS by elimination of whole equations, SETS by trying all.
 */
public final class ModelTests {
  private static final long FAR = -1000000000L;
  private static final String NUMBER = "(?:0|[1-9][0-9]?)";
  private static final Pattern TEXT = Pattern.compile("(?:(?:[gd]" + NUMBER + " " + NUMBER + " " + NUMBER
      + "|m" + NUMBER + " " + NUMBER + ");)+");
  private static final Pattern RULE = Pattern.compile(rulePattern(0));

  public static void main(String[] args) {
    for (int seed = 0; seed < 4000; seed++) {
      new Run(seed).play();
    }
    Check.end();
  }

  private static String rulePattern(int depth) {
    String atom = "(?:0|[1-9][0-9]{0,3}|[egwlrtu])";
    String sum = atom + "(?:[+\\-]" + atom + ")*";
    String test = sum + "[<>=]" + sum;
    if (depth < 8) {
      test = "(?:" + test + "|\\(" + rulePattern(depth + 1) + "\\))";
    }
    test = "!*" + test;
    return test + "(?:[&|]" + test + ")*";
  }

  /** The first place with which nothing that fits can go on; -1 if all of the text fits. */
  private static int firstFault(Pattern pattern, String text) {
    for (int size = 1; size <= text.length(); size++) {
      Matcher matcher = pattern.matcher(text.substring(0, size));
      if (!matcher.matches() && !matcher.hitEnd()) {
        return size - 1;
      }
    }
    return pattern.matcher(text).matches() ? -1 : text.length();
  }

  private static final class Wheel implements Cloneable {
    int number;
    int kind;
    int teeth;
    int shaft;
    int[] flank = new int[16];

    Wheel same() {
      Wheel w = new Wheel();
      w.number = number;
      w.kind = kind;
      w.teeth = teeth;
      w.shaft = shaft;
      w.flank = flank.clone();
      return w;
    }

    int hard() {
      return kind == 0 ? 10 : kind == 1 ? 20 : kind == 2 ? 5 : kind == 3 ? 25 : 10 + teeth / 10;
    }

    int thin() {
      int least = 99;
      for (int width : flank) {
        least = Math.min(least, width);
      }
      return least;
    }

    int undercut() {
      for (int y = 0; y <= 14; y++) {
        boolean ahead = false;
        for (int z = 0; z < y; z++) {
          ahead |= flank[y] < flank[z];
        }
        if (ahead && flank[y] < flank[y + 1]) {
          return y;
        }
      }
      return -4;
    }
  }

  /** All that there is, but SHELVES and THE IMAGE. */
  private static final class World {
    List<Wheel> gears = new ArrayList<>();
    List<int[]> meshes = new ArrayList<>();
    List<int[]> pairs = new ArrayList<>();
    List<Node> rules = new ArrayList<>();

    World same() {
      World w = new World();
      for (Wheel gear : gears) {
        w.gears.add(gear.same());
      }
      for (int[] mesh : meshes) {
        w.meshes.add(mesh.clone());
      }
      w.pairs.addAll(pairs);
      w.rules.addAll(rules);
      return w;
    }

    int[] meshOf(int a, int b) {
      for (int[] mesh : meshes) {
        if (mesh[0] == a && mesh[1] == b || mesh[0] == b && mesh[1] == a) {
          return mesh;
        }
      }
      return null;
    }

    boolean does(char letter, int[] n) {
      if (letter == 'g') {
        if (n[0] > 4 || n[1] < 4 || n[2] > 7 || gears.size() == 12) {
          return false;
        }
        Wheel w = new Wheel();
        w.number = gears.size();
        w.kind = n[0];
        w.teeth = n[1];
        w.shaft = n[2];
        java.util.Arrays.fill(w.flank, 31);
        gears.add(w);
        return true;
      }
      if (n[0] >= gears.size() || n[1] >= gears.size()) {
        return false;
      }
      int[] mesh = meshOf(n[0], n[1]);
      if (letter == 'd') {
        if (mesh == null || n[2] > 62) {
          return false;
        }
        mesh[2] = n[2];
        return true;
      }
      boolean rings = gears.get(n[0]).kind == 4 && gears.get(n[1]).kind == 4;
      if (n[0] == n[1] || rings || mesh != null || meshes.size() == 16) {
        return false;
      }
      meshes.add(new int[] {n[0], n[1], 62});
      return true;
    }

    /** {above, below} by SHAFTS, null where FREE; null at all if LOCKED. */
    BigInteger[][] speeds() {
      List<BigInteger[]> rows = new ArrayList<>();
      BigInteger[] one = new BigInteger[9];
      java.util.Arrays.fill(one, BigInteger.ZERO);
      one[0] = BigInteger.ONE;
      one[8] = BigInteger.ONE;
      rows.add(one);
      for (int[] mesh : meshes) {
        BigInteger[] row = new BigInteger[9];
        java.util.Arrays.fill(row, BigInteger.ZERO);
        Wheel a = gears.get(mesh[0]);
        Wheel b = gears.get(mesh[1]);
        int sign = a.kind == 4 || b.kind == 4 ? -1 : 1;
        row[a.shaft] = row[a.shaft].add(BigInteger.valueOf(a.teeth));
        row[b.shaft] = row[b.shaft].add(BigInteger.valueOf((long) sign * b.teeth));
        rows.add(row);
      }
      return solved(rows);
    }

    private static BigInteger[][] solved(List<BigInteger[]> rows) {
      int[] pivots = new int[8];
      java.util.Arrays.fill(pivots, -1);
      int next = 0;
      for (int column = 0; column < 8; column++) {
        int found = -1;
        for (int i = next; i < rows.size() && found < 0; i++) {
          found = rows.get(i)[column].signum() != 0 ? i : -1;
        }
        if (found < 0) {
          continue;
        }
        BigInteger[] pivot = rows.get(found);
        rows.set(found, rows.get(next));
        rows.set(next, pivot);
        for (int i = 0; i < rows.size(); i++) {
          BigInteger[] row = rows.get(i);
          if (i != next && row[column].signum() != 0) {
            BigInteger by = row[column];
            for (int c = 0; c < 9; c++) {
              row[c] = row[c].multiply(pivot[column]).subtract(pivot[c].multiply(by));
            }
          }
        }
        pivots[column] = next;
        next++;
      }
      for (int i = next; i < rows.size(); i++) {
        if (rows.get(i)[8].signum() != 0) {
          return null;
        }
      }
      BigInteger[][] told = new BigInteger[8][];
      for (int shaft = 0; shaft < 8; shaft++) {
        if (pivots[shaft] < 0) {
          continue;
        }
        BigInteger[] row = rows.get(pivots[shaft]);
        boolean alone = true;
        for (int c = 0; c < 8; c++) {
          alone &= c == shaft || row[c].signum() == 0;
        }
        if (alone) {
          BigInteger gcd = row[8].gcd(row[shaft]);
          BigInteger sign = BigInteger.valueOf(row[shaft].signum());
          told[shaft] = new BigInteger[] {row[8].divide(gcd).multiply(sign), row[shaft].divide(gcd).multiply(sign)};
        }
      }
      return told;
    }
  }

  private static int off(int[] a, int[] b, int room, int t) {
    int greatest = 0;
    for (int y = 0; y < 16; y++) {
      greatest = Math.max(greatest, a[y] + b[(15 - y + t) % 16]);
    }
    return room - greatest;
  }

  private static int touch(int[] a, int[] b, int t) {
    for (int y = 0; y < 16; y++) {
      if (-a[y] - b[(15 - y + t) % 16] == off(a, b, 0, t)) {
        return y;
      }
    }
    return -99;
  }

  private static int gap(int[] a, int[] b, int room) {
    int least = 999;
    for (int t = 0; t < 16; t++) {
      least = Math.min(least, off(a, b, room, t));
    }
    return least;
  }

  private static int even(int[] a, int[] b) {
    int greatest = -999;
    for (int t = 0; t < 16; t++) {
      greatest = Math.max(greatest, off(a, b, 62, t));
    }
    return greatest - gap(a, b, 62);
  }

  private static void wear(Wheel a, Wheel b, int load) {
    for (int t = 0; t < 16; t++) {
      int y = touch(a.flank, b.flank, t);
      int z = (15 - y + t) % 16;
      if (a.hard() < load / 10 && a.flank[y] > 0) {
        a.flank[y]--;
      }
      if (b.hard() < load / 10 && b.flank[z] > 0) {
        b.flank[z]--;
      }
    }
  }

  private static long loud(int[] a, int[] b, int room, int k) {
    int[] cos = {1000, 924, 707, 383, 0, -383, -707, -924, -1000, -924, -707, -383, 0, 383, 707, 924};
    long c = 0;
    long s = 0;
    for (int t = 0; t < 16; t++) {
      c += (long) off(a, b, room, t) * cos[k * t % 16];
      s += (long) off(a, b, room, t) * cos[(k * t % 16 + 12) % 16];
    }
    return (c * c + s * s) / 1000000;
  }

  private static int whine(int[] a, int[] b, int room) {
    int best = 1;
    for (int k = 8; k >= 1; k--) {
      boolean loudest = true;
      for (int other = 1; other <= 8; other++) {
        loudest &= loud(a, b, room, k) >= loud(a, b, room, other);
      }
      best = loudest ? k : best;
    }
    return best;
  }

  private static int[] cut(long[] reaches, int shift, int n) {
    int[] flank = new int[16];
    java.util.Arrays.fill(flank, 31);
    for (int k = 0; k < n; k++) {
      int up = (int) Math.floor(16.0 * k / n) - 8;
      for (int y = 0; y < 16; y++) {
        if (y - up >= 0 && y - up <= 15) {
          long most = 31 - (reaches[y - up] + shift - up * up / 8);
          flank[y] = (int) Math.max(0, Math.min(flank[y], most));
        }
      }
    }
    return flank;
  }

  /** A RULE as a tree, made by the test itself: its text, and whether it holds. */
  private static final class Node {
    final String text;
    final char sign;
    final List<Node> parts;

    Node(String text, char sign, List<Node> parts) {
      this.text = text;
      this.sign = sign;
      this.parts = parts;
    }

    long value(long[] fields) {
      switch (sign) {
        case 'n': return Integer.parseInt(text);
        case 'f': return fields["egwlrtu".indexOf(text)];
        case '+': return parts.get(0).value(fields) + parts.get(1).value(fields);
        case '-': return parts.get(0).value(fields) - parts.get(1).value(fields);
        case '<': return parts.get(0).value(fields) < parts.get(1).value(fields) ? 1 : 0;
        case '>': return parts.get(0).value(fields) > parts.get(1).value(fields) ? 1 : 0;
        case '=': return parts.get(0).value(fields) == parts.get(1).value(fields) ? 1 : 0;
        case '!': return 1 - parts.get(0).value(fields);
        case '&': return parts.get(0).value(fields) * parts.get(1).value(fields);
        case '|': return Math.max(parts.get(0).value(fields), parts.get(1).value(fields));
        default: return parts.get(0).value(fields);
      }
    }
  }

  private static Node node(String text, char sign, Node... parts) {
    return new Node(text, sign, List.of(parts));
  }

  private static Node atom(Random random) {
    if (random.nextBoolean()) {
      String field = "egwlrtu".substring(random.nextInt(7)).substring(0, 1);
      return node(field, 'f');
    }
    int[] most = {3, 9, 40, 120, 10000};
    return node(Integer.toString(random.nextInt(most[random.nextInt(5)])), 'n');
  }

  private static Node sum(Random random) {
    Node all = atom(random);
    while (random.nextInt(3) == 0) {
      Node more = atom(random);
      char sign = random.nextBoolean() ? '+' : '-';
      all = node(all.text + sign + more.text, sign, all, more);
    }
    return all;
  }

  private static Node test(Random random, int depth) {
    if (random.nextInt(4) == 0) {
      Node inside = test(random, depth);
      return node("!" + inside.text, '!', inside);
    }
    if (depth < 8 && random.nextInt(3) == 0) {
      Node inside = or(random, depth + 1);
      return node("(" + inside.text + ")", '(', inside);
    }
    Node left = sum(random);
    Node right = sum(random);
    char sign = "<>=".charAt(random.nextInt(3));
    return node(left.text + sign + right.text, sign, left, right);
  }

  private static Node and(Random random, int depth) {
    Node first = test(random, depth);
    if (random.nextInt(3) != 0) {
      return first;
    }
    Node more = and(random, depth);
    return node(first.text + "&" + more.text, '&', first, more);
  }

  private static Node or(Random random, int depth) {
    Node first = and(random, depth);
    if (random.nextInt(3) != 0) {
      return first;
    }
    Node more = or(random, depth);
    return node(first.text + "|" + more.text, '|', first, more);
  }

  /** One run of at most 512 calls on one object, and the model beside it. */
  private static final class Run {
    final Random random;
    final GearTeeth x = new GearTeeth();
    World world = new World();
    World image;
    final Object[] shelves = new Object[8];
    final int[] sorts = new int[8];
    int calls;
    final int seed;

    Run(int seed) {
      this.seed = seed;
      this.random = new Random(seed);
    }

    void play() {
      texts(false);
      while (calls < 360) {
        switch (random.nextInt(20)) {
          case 0: texts(random.nextBoolean()); break;
          case 1: rules(); break;
          case 2: cutting(); break;
          case 3: loading(); break;
          case 4: ears(); break;
          case 5: images(); break;
          case 6: shelving(); break;
          case 7: turning(); break;
          case 8: case 9: wearing(); break;
          default: rolling();
        }
        counting();
      }
    }

    void due(String call, long got, long want) {
      calls++;
      Check.due("seed " + seed + " call " + calls + ": " + call, got, want);
    }

    int pick(int bound) {
      return random.nextInt(bound + 2) - 1;
    }

    int gear() {
      return random.nextInt(20) == 0 ? pick(13) : random.nextInt(Math.max(1, world.gears.size()));
    }

    int mesh() {
      return random.nextInt(20) == 0 ? pick(17) : random.nextInt(Math.max(1, world.meshes.size()));
    }

    boolean isGear(int gear) {
      return gear >= 0 && gear < world.gears.size();
    }

    boolean isMesh(int mesh) {
      return mesh >= 0 && mesh < world.meshes.size();
    }

    Wheel a(int mesh) {
      return world.gears.get(world.meshes.get(mesh)[0]);
    }

    Wheel b(int mesh) {
      return world.gears.get(world.meshes.get(mesh)[1]);
    }

    /** Puts a text into a SHELF, by few calls: what stands there already stays. */
    void write(int d, String text) {
      x.row(d, 0, text.length());
      long[] row = new long[text.length()];
      for (int i = 0; i < row.length; i++) {
        row[i] = text.charAt(i);
        x.put(d, i, text.charAt(i));
      }
      shelves[d] = row;
      sorts[d] = 0;
      calls += 1 + text.length();
    }

    void fill(int d, int sort, long[] row) {
      x.row(d, sort, row.length);
      for (int i = 0; i < row.length; i++) {
        x.put(d, i, (int) row[i]);
      }
      shelves[d] = row;
      sorts[d] = sort;
      calls += 1 + row.length;
    }

    String statement() {
      int gears = Math.max(1, world.gears.size() + 2);
      switch (random.nextInt(5)) {
        case 0: case 1:
          int[] teeth = {4, 5, 6, 9, 10, 12, 20, 40, 99, 4 + random.nextInt(96)};
          return "g" + random.nextInt(5) + " " + teeth[random.nextInt(10)] + " "
              + random.nextInt(random.nextInt(15) == 0 ? 9 : 8) + ";";
        case 2: case 3: return "m" + random.nextInt(gears) + " " + random.nextInt(gears) + ";";
        default: return "d" + random.nextInt(gears) + " " + random.nextInt(gears) + " " + random.nextInt(64) + ";";
      }
    }

    String broken(String text, String signs) {
      if (text.isEmpty()) {
        return text;
      }
      int at = random.nextInt(text.length());
      char sign = signs.charAt(random.nextInt(signs.length()));
      switch (random.nextInt(4)) {
        case 0: return text.substring(0, at) + sign + text.substring(at + 1);
        case 1: return text.substring(0, at) + text.substring(at + 1);
        case 2: return text.substring(0, at) + sign + text.substring(at);
        default: return text.substring(0, at);
      }
    }

    void texts(boolean breaks) {
      StringBuilder all = new StringBuilder();
      int statements = random.nextInt(5) + 1;
      for (int i = 0; i < statements; i++) {
        all.append(statement());
      }
      String text = breaks ? broken(all.toString(), "gmd01 9;;x") : all.toString();
      write(7, text);
      due("text " + text, x.text(7), textDue(text));
    }

    long textDue(String text) {
      int fault = firstFault(TEXT, text);
      if (fault >= 0) {
        return -1000 - fault;
      }
      World trial = world.same();
      int place = 0;
      String[] statements = text.split(";");
      for (String statement : statements) {
        String[] parts = statement.substring(1).split(" ");
        int[] numbers = new int[3];
        for (int i = 0; i < parts.length; i++) {
          numbers[i] = Integer.parseInt(parts[i]);
        }
        if (!trial.does(statement.charAt(0), numbers)) {
          return -2000 - place;
        }
        place += statement.length() + 1;
      }
      world = trial;
      return statements.length;
    }

    void rules() {
      Node rule = or(random, 0);
      if (rule.text.length() > 60) {
        return;
      }
      boolean breaks = random.nextInt(3) == 0;
      String text = breaks ? broken(rule.text, "egr01<>=&|!()+-x ") : rule.text;
      write(6, text);
      int fault = firstFault(RULE, text);
      if (random.nextBoolean()) {
        due("fault " + text, x.fault(6), fault < 0 ? -4 : fault);
      }
      boolean full = world.rules.size() == 12;
      if (!text.equals(rule.text) && fault < 0) {
        return;
      }
      due("rule " + text, x.rule(6), full ? -2 : fault >= 0 ? -100 - fault : world.rules.size());
      if (!full && fault < 0) {
        world.rules.add(rule);
      }
      int r = random.nextInt(10) == 0 ? pick(13) : Math.max(0, world.rules.size() - 1);
      int m = mesh();
      boolean known = r >= 0 && r < world.rules.size() && isMesh(m);
      due("holds", x.holds(r, m), known ? held(world.rules.get(r), a(m), b(m), world.meshes.get(m)[2], 0) : -1);
      int load = random.nextInt(400) + 1;
      due("watch", x.watch(r, m, load), known ? watched(world.rules.get(r), m, load) : -1);
    }

    long held(Node rule, Wheel a, Wheel b, int room, int round) {
      int tone = whine(a.flank, b.flank, room);
      long[] fields = {even(a.flank, b.flank), gap(a.flank, b.flank, room), tone,
          Math.min(9999, loud(a.flank, b.flank, room, tone)), round, a.thin(), b.thin()};
      return rule.value(fields);
    }

    long watched(Node rule, int m, int load) {
      Wheel a = a(m).same();
      Wheel b = b(m).same();
      for (int round = 0; round <= 200; round++) {
        if (held(rule, a, b, world.meshes.get(m)[2], round) == 1) {
          return round;
        }
        wear(a, b, load);
      }
      return -4;
    }

    long[] cutter() {
      long[] row = new long[16];
      int most = new int[] {4, 12, 32}[random.nextInt(3)];
      int sort = random.nextInt(4);
      for (int i = 0; i < 16; i++) {
        boolean first = random.nextInt(sort < 2 ? 2 : 5) == 0;
        row[i] = sort < 2 ? random.nextInt(most) : first == (sort == 2) ? 31 : random.nextInt(3);
      }
      return row;
    }

    void cutting() {
      if (world.gears.isEmpty()) {
        return;
      }
      if (!(shelves[5] instanceof long[]) || random.nextInt(4) == 0) {
        fill(5, 0, cutter());
      }
      long[] row = (long[]) shelves[5];
      boolean good = row.length == 16;
      for (long reach : row) {
        good &= reach >= 0 && reach <= 31;
      }
      if (sorts[5] != 0 || !good) {
        long refusal = sorts[5] != 0 ? -12 : -13;
        due("cut", x.cut(0, 5, 108), refusal);
        due("readBack", x.readBack(0, 5, 1, 0), refusal);
        due("bestShift", x.bestShift(0, 5, 1), world.meshes.isEmpty() ? FAR - 1 : FAR + refusal);
        shelves[5] = null;
        due("keep", x.keep(5, 0, 0), 0);
        return;
      }
      for (int i = 0; i < 3; i++) {
        int g = random.nextInt(world.gears.size());
        int n = random.nextInt(32) + 1;
        int shift = random.nextInt(17) - 8;
        if (random.nextBoolean()) {
          world.gears.get(g).flank = cut(row, shift, n);
          due("cut", x.cut(g, 5, 100 * n + shift + 8), world.gears.get(g).thin());
        }
        List<Integer> fits = new ArrayList<>();
        for (int s = -8; s <= 8; s++) {
          if (java.util.Arrays.equals(cut(row, s, n), world.gears.get(g).flank)) {
            fits.add(s);
          }
        }
        due("readBack", x.readBack(g, 5, n, -1), fits.size());
        int which = random.nextInt(4);
        due("readBack", x.readBack(g, 5, n, which), which < fits.size() ? fits.get(which) + 8 : -4);
        bestShift(row, n);
      }
    }

    void bestShift(long[] row, int n) {
      int m = mesh();
      if (!isMesh(m)) {
        due("bestShift", x.bestShift(m, 5, n), FAR - 1);
        return;
      }
      long want = -4000;
      long best = Long.MAX_VALUE;
      for (int s = -8; s <= 8; s++) {
        int[] flank = cut(row, s, n);
        long cost = even(flank, b(m).flank) * 1000L + Math.abs(s) * 10 - (s > 0 ? 1 : 0);
        if (gap(flank, b(m).flank, world.meshes.get(m)[2]) >= 0 && cost < best) {
          best = cost;
          want = s;
        }
      }
      due("bestShift", x.bestShift(m, 5, n), want);
    }

    void rolling() {
      int m = mesh();
      int t = random.nextInt(20) == 0 ? pick(16) : random.nextInt(16);
      int n = random.nextInt(3) == 0 ? pick(63) : 30 + random.nextInt(33);
      boolean known = isMesh(m);
      boolean turns = known && t >= 0 && t < 16;
      int[] a = known ? a(m).flank : new int[16];
      int[] b = known ? b(m).flank : new int[16];
      int room = known ? world.meshes.get(m)[2] : 0;
      int jam = -4;
      for (int turn = 15; turn >= 0; turn--) {
        jam = off(a, b, room, turn) < 0 ? turn : jam;
      }
      int k = pick(10);
      switch (random.nextInt(8)) {
        case 0: due("off", x.off(m, t), turns ? off(a, b, room, t) : FAR - 1); break;
        case 1: due("touch", x.touch(m, t), turns ? touch(a, b, t) : -1); break;
        case 2: due("jam", x.jam(m), known ? jam : -1); break;
        case 3: due("gap", x.gap(m), known ? gap(a, b, room) : FAR - 1); break;
        case 4: due("even", x.even(m), known ? even(a, b) : -1); break;
        case 5: due("whine", x.whine(m), known ? whine(a, b, room) : -1); break;
        case 6: due("loud", x.loud(m, k), known && k >= 0 && k <= 8 ? loud(a, b, room, k) : -1); break;
        default:
          due("room", x.room(m, n), known && n >= 0 && n <= 62 ? room : -1);
          if (known && n >= 0 && n <= 62) {
            world.meshes.get(m)[2] = n;
          }
      }
      int g = gear();
      int y = random.nextInt(18) - 1;
      due("width", x.width(g, y), isGear(g) && y >= 0 && y < 16 ? world.gears.get(g).flank[y] : -1);
      gearTold(g);
    }

    void gearTold(int g) {
      int what = pick(9);
      if (!isGear(g) || what < 0 || what > 7) {
        due("gear", x.gear(g, what), -1);
        return;
      }
      Wheel w = world.gears.get(g);
      int[] stiff = {8, 12, 6, 12, 16};
      int[] told = {w.kind, w.teeth, w.shaft, w.hard(), stiff[w.kind], w.thin(), w.flank[15], w.undercut()};
      due("gear " + what, x.gear(g, what), told[what]);
    }

    void wearing() {
      int m = mesh();
      int load = random.nextInt(20) == 0 ? pick(1000) * 2 : random.nextInt(350) + 1;
      int mark = random.nextInt(10) == 0 ? pick(64) : random.nextInt(9) + 1;
      int n = random.nextInt(10) == 0 ? pick(110) : random.nextInt(6) + 1;
      boolean known = isMesh(m) && load >= 1 && load <= 999;
      long until = known && mark >= 1 && mark <= 62 ? -4 : -1;
      if (until == -4) {
        Wheel a = a(m).same();
        Wheel b = b(m).same();
        for (int round = 1; round <= 200 && until == -4; round++) {
          wear(a, b, load);
          until = even(a.flank, b.flank) >= mark ? round : -4;
        }
      }
      due("until", x.until(m, load, mark), until);
      known = known && n >= 1 && n <= 100;
      for (int i = 0; known && i < n; i++) {
        wear(a(m), b(m), load);
      }
      due("wear", x.wear(m, load, n), known ? even(a(m).flank, b(m).flank) : -1);
    }

    void loading() {
      if (random.nextInt(6) == 0) {
        due("clear", x.clear(), world.pairs.size());
        world.pairs.clear();
      }
      int gap = random.nextInt(10) == 0 ? pick(101) : random.nextInt(100);
      int stiff = random.nextInt(10) == 0 ? pick(101) : random.nextInt(20) + 1;
      boolean good = gap >= 0 && gap <= 99 && stiff >= 1 && stiff <= 99;
      boolean room = world.pairs.size() < 6;
      if (good && room) {
        world.pairs.add(new int[] {gap, stiff});
      }
      due("pair", x.pair(gap, stiff), !good ? -1 : !room ? -2 : world.pairs.size());
      int load = random.nextInt(10) == 0 ? pick(10000) : random.nextInt(random.nextBoolean() ? 200 : 10000);
      int push = pushDue(load);
      due("pushed " + load, x.pushed(load), push);
      int p = random.nextInt(6);
      boolean known = p < world.pairs.size() && push != -1;
      due("share", x.share(p, load), !known ? -1 : push == -4 ? -3 : shareDue(p, push));
      int bits = 0;
      for (int i = 0; i < world.pairs.size(); i++) {
        bits += push >= 0 && shareDue(i, push) > 0 ? 1 << i : 0;
      }
      due("bearing", x.bearing(load), push == -4 ? -3 : push == -1 ? -1 : bits);
    }

    int shareDue(int p, int push) {
      return world.pairs.get(p)[1] * Math.max(0, push - world.pairs.get(p)[0]);
    }

    int pushDue(int load) {
      if (load < 0 || load > 9999) {
        return -1;
      }
      for (int push = 0; push <= 9999; push++) {
        int sum = 0;
        for (int p = 0; p < world.pairs.size(); p++) {
          sum += shareDue(p, push);
        }
        if (sum >= load) {
          return push;
        }
      }
      return -4;
    }

    void ears() {
      long[] row = new long[random.nextInt(10) == 0 ? 59 + random.nextInt(3) : random.nextInt(26)];
      int faults = random.nextInt(3);
      for (int i = 0; i < faults && !world.gears.isEmpty(); i++) {
        Wheel w = world.gears.get(random.nextInt(world.gears.size()));
        for (int t = random.nextInt(w.teeth); t < row.length; t += w.teeth) {
          row[t] = 1;
        }
      }
      if (random.nextInt(8) == 0 && row.length > 0) {
        row[random.nextInt(row.length)] = pick(3);
      }
      fill(4, 0, row);
      earsDue(row);
    }

    void earsDue(long[] row) {
      boolean good = row.length <= 60;
      long heard = 0;
      for (int t = 0; t < row.length; t++) {
        good &= row[t] == 0 || row[t] == 1;
        heard |= row[t] == 1 && t < 60 ? 1L << t : 0;
      }
      int count = heard == 0 ? 1 : 0;
      int all = heard == 0 ? 0 : -1;
      int some = 0;
      List<long[]> faults = faults(row.length);
      for (int i = 0; i < faults.size(); i++) {
        for (int j = i; j < faults.size(); j++) {
          long[] one = faults.get(i);
          long[] two = faults.get(j);
          if ((one[1] | two[1]) == heard && (i == j || one[0] != two[0])) {
            int bits = 1 << one[0] | 1 << two[0];
            count++;
            all &= bits;
            some |= bits;
          }
        }
      }
      due("ear 0", x.ear(4, 0), good ? count : -13);
      due("ear 1", x.ear(4, 1), !good ? -13 : count == 0 ? 0 : all);
      due("ear 2", x.ear(4, 2), good ? some : -13);
    }

    /** All FAULTS: {the GEAR, the bits of TICKS}. */
    List<long[]> faults(int ticks) {
      List<long[]> faults = new ArrayList<>();
      for (Wheel w : world.gears) {
        for (int phase = 0; phase < w.teeth; phase++) {
          long sound = 0;
          for (int t = 0; t < Math.min(60, ticks); t++) {
            sound |= t % w.teeth == phase ? 1L << t : 0;
          }
          faults.add(new long[] {w.number, sound});
        }
      }
      return faults;
    }

    void images() {
      if (random.nextInt(3) == 0) {
        due("image", x.image(), world.gears.size());
        image = world.same();
      }
      if (random.nextInt(3) == 0) {
        due("restore", x.restore(), image == null ? -3 : image.gears.size());
        world = image == null ? world : image.same();
      }
    }

    void turning() {
      BigInteger[][] speeds = world.speeds();
      due("locked", x.locked(), speeds == null ? 1 : 0);
      int turned = 0;
      for (int shaft = 0; shaft < 8; shaft++) {
        int part = random.nextInt(2);
        long want = speeds == null ? FAR - 3 : speeds[shaft] == null ? FAR - 4 : speeds[shaft][part].longValueExact();
        due("speed " + shaft, x.speed(shaft, part), want);
        turned += speeds != null && speeds[shaft] != null ? 1 : 0;
      }
      due("turned", x.count(6), turned);
      int g = gear();
      int h = gear();
      boolean good = isGear(g) && isGear(h) && g != h;
      int hunt = 0;
      if (good) {
        int first = world.gears.get(g).teeth;
        int second = world.gears.get(h).teeth;
        do {
          hunt++;
        } while (hunt * first % second != 0);
        due("missed", x.hunt(g, h, 1), second - hunt);
      }
      due("hunt", x.hunt(g, h, 0), good ? hunt : -1);
      planets();
    }

    void planets() {
      int s = random.nextInt(20) == 0 ? pick(101) : random.nextInt(40) + 4;
      int r = random.nextInt(20) == 0 ? pick(101) : random.nextInt(60) + 40;
      int n = random.nextInt(14);
      boolean good = s >= 4 && s <= 99 && r >= 4 && r <= 99;
      due("planets", x.planets(s, r, n), !good || n < 1 || n > 12 ? -1 : mayBeBuilt(s, r, n) ? (r - s) / 2 : -4);
      int most = -4;
      for (int i = 1; i <= 12; i++) {
        most = good && mayBeBuilt(s, r, i) ? i : most;
      }
      due("most", x.most(s, r), good ? most : -1);
    }

    static boolean mayBeBuilt(int s, int r, int n) {
      return (r - s) % 2 == 0 && r - s >= 8 && (s + r) % n == 0 && n * ((r - s) / 2 + 2) <= 3 * (s + (r - s) / 2);
    }

    void shelving() {
      int d = random.nextInt(8);
      int k = gear();
      if (random.nextBoolean()) {
        due("keep", x.keep(d, 1, k), isGear(k) ? 0 : -1);
        shelves[d] = isGear(k) ? world.gears.get(k).same() : shelves[d];
      } else if (random.nextBoolean()) {
        long[] row = new long[random.nextInt(6)];
        int sort = random.nextInt(3);
        fill(d, sort, row);
      } else {
        due("keep", x.keep(d, 0, k), 0);
        shelves[d] = null;
      }
      int e = random.nextInt(8);
      puts(e);
      copies(d, e);
      Object held = shelves[e];
      due("weight", x.weight(e), held == null ? -11 : held instanceof Wheel w ? weightDue(w) : -12);
      due("toss", x.toss(e), held == null ? -11 : held instanceof Wheel w ? tossDue(w) : -12);
    }

    static long weightDue(Wheel w) {
      long plain = 100 + w.teeth + w.hard();
      return w.kind == 0 ? plain : w.kind == 4 ? plain + w.flank[15] : (plain + w.thin()) * (w.kind == 3 ? 2 : 1);
    }

    static long tossDue(Wheel w) {
      boolean none = w.kind == 4 || w.kind == 3 && w.thin() == 31;
      return none ? -15 : w.kind == 2 ? w.number + 100 + w.thin() : w.number;
    }

    void puts(int d) {
      int i = pick(6);
      int v = random.nextBoolean() ? random.nextInt(300) - 150 : random.nextInt();
      Object held = shelves[d];
      long[] row = held instanceof long[] r ? r : new long[0];
      boolean place = i >= 0 && i < row.length;
      due("put", x.put(d, i, v), held == null ? -11 : held instanceof Wheel ? -12 : place ? 0 : -13);
      if (place) {
        row[i] = sorts[d] == 0 ? (byte) v : sorts[d] == 1 ? (short) v : v;
        due("element", x.element(d, i), row[i]);
      }
    }

    void copies(int d, int e) {
      int i = pick(4);
      int j = pick(4);
      int n = pick(5);
      long want;
      if (shelves[d] == null || shelves[e] == null) {
        want = -11;
      } else if (!(shelves[d] instanceof long[] from) || !(shelves[e] instanceof long[] to) || sorts[d] != sorts[e]) {
        want = -12;
      } else if (i < 0 || j < 0 || n < 0 || i + n > from.length || j + n > to.length) {
        want = -13;
      } else {
        long[] taken = java.util.Arrays.copyOfRange(from, i, i + n);
        System.arraycopy(taken, 0, to, j, n);
        want = n;
      }
      due("copy", x.copy(d, i, e, j, n), want);
    }

    void counting() {
      int teeth = 0;
      int widths = 0;
      for (Wheel w : world.gears) {
        teeth += w.teeth;
        for (int width : w.flank) {
          widths += width;
        }
      }
      int[] want = {world.gears.size(), world.meshes.size(), world.rules.size(), world.pairs.size(), teeth, widths};
      int what = random.nextInt(6);
      due("count " + what, x.count(what), want[what]);
      int m = mesh();
      int part = random.nextInt(3);
      due("mesh", x.mesh(m, part), isMesh(m) ? world.meshes.get(m)[part] : -1);
    }
  }
}
