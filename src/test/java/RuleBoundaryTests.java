/** Term 5, promises 27 to 30: the language of RULES byte by byte, what holds, and the ROUNDS that are watched. */
public final class RuleBoundaryTests {
  private static final String FIELDS = "egwlrtu";
  private static final String TEST = "!(9" + FIELDS;
  private static final String DEEP = "((((((((";
  /** A text as far as it goes, all that may come behind it ('9' is any digit), and "." where it may end. */
  private static final String[][] GO_ON = {
      {"", TEST, ""}, {"!", TEST, ""}, {"!!", TEST, ""}, {"(", TEST, ""}, {"(!", TEST, ""},
      {"0", "+-<>=", ""}, {"1", "9+-<>=", ""}, {"12", "9+-<>=", ""}, {"100", "9+-<>=", ""}, {"1234", "+-<>=", ""},
      {"e", "+-<>=", ""}, {"u", "+-<>=", ""}, {"1+", "9" + FIELDS, ""}, {"1-", "9" + FIELDS, ""},
      {"1+0", "+-<>=", ""}, {"1-9999", "+-<>=", ""}, {"1+e", "+-<>=", ""}, {"1-e+", "9" + FIELDS, ""},
      {"1<", "9" + FIELDS, ""}, {"1>", "9" + FIELDS, ""}, {"1=", "9" + FIELDS, ""},
      {"1<0", "+-&|", "."}, {"1<1", "9+-&|", "."}, {"1<999", "9+-&|", "."}, {"1<1234", "+-&|", "."},
      {"1<e", "+-&|", "."}, {"1<e+", "9" + FIELDS, ""}, {"1<e-1", "9+-&|", "."},
      {"1<1&", TEST, ""}, {"1<1|", TEST, ""}, {"1<1&1=1|", TEST, ""}, {"1<1|1=1&", TEST, ""},
      {"(1<1", "9+-&|)", ""}, {"(e=e", "+-&|)", ""}, {"(1<1)", "&|", "."}, {"(1<1)|", TEST, ""},
      {"(1<1|", TEST, ""}, {"((1<1)", "&|)", ""}, {"((1<1)&", TEST, ""}, {"!(1<1)", "&|", "."},
      {"(((((((", TEST, ""}, {DEEP, "!9" + FIELDS, ""}, {DEEP + "!", "!9" + FIELDS, ""},
      {DEEP + "1=0", "+-&|)", ""}, {DEEP + "1=0&", "!9" + FIELDS, ""}, {DEEP + "1=0|", "!9" + FIELDS, ""},
      {DEEP + "1=0)", "&|)", ""}, {DEEP + "1=0)&", TEST, ""}, {DEEP + "1=0)|(", "!9" + FIELDS, ""},
      {DEEP + "1=0)))))))", "&|)", ""}, {DEEP + "1=0))))))))", "&|", "."}, {DEEP + "1=0))))))))&", TEST, ""},
      {DEEP + "1=0))))))))&(((((((", TEST, ""}, {DEEP + "1=0))))))))&" + DEEP, "!9" + FIELDS, ""},
      {"!(!(!(!(!(!(!(!(", "!9" + FIELDS, ""}, {"!(!(!(!(!(!(!(", TEST, ""}};

  public static void main(String[] args) {
    whatGoesOn();
    whatEndsTooEarly();
    numbers();
    depths();
    asMuchAsARowHolds();
    rowsOfBytes();
    twelveRules();
    ruleKeepsItsText();
    comparisons();
    whatGoesAhead();
    fields();
    loudOfWhineAtMost();
    fieldsOfBoth();
    roundsThatAreWatched();
    asItWears();
    Check.end();
  }

  private static void due(String call, long got, long want) {
    Check.due(call, got, want);
  }

  private static String times(String text, int n) {
    StringBuilder all = new StringBuilder();
    for (int i = 0; i < n; i++) {
      all.append(text);
    }
    return all.toString();
  }

  /** "FAULT as in 2 (its place alone)": the first byte with which no RULE can go on, by each of all bytes. */
  private static void whatGoesOn() {
    for (String[] known : GO_ON) {
      String text = known[0];
      faultOf(text, known[2].isEmpty() ? text.length() : -4);
      GearTeeth x = new GearTeeth();
      for (int sign = -128; sign < 128; sign++) {
        if ((sign + 128) % 86 == 0) {
          x = new GearTeeth();
          Check.write(x, 0, text + "?");
        }
        x.put(0, text.length(), sign);
        boolean digit = sign >= '0' && sign <= '9';
        boolean goesOn = known[1].indexOf(digit ? '9' : sign) >= 0;
        int fault = x.fault(0);
        if (goesOn) {
          boolean goesFurther = fault == -4 || fault == text.length() + 1;
          Check.holds("<" + text + "> and then <" + (char) sign + "> " + fault, goesFurther);
        } else {
          due("<" + text + "> and sign " + sign, fault, text.length());
        }
      }
    }
  }

  private static void faultOf(String text, int due) {
    GearTeeth x = new GearTeeth();
    Check.write(x, 0, text);
    due("fault of <" + text + ">", x.fault(0), due);
    due("rule of <" + text + ">", x.rule(0), due == -4 ? 0 : -100 - due);
    due("rules", x.count(2), due == -4 ? 1 : 0);
  }

  /** "(the size, if it ends too early)". */
  private static void whatEndsTooEarly() {
    String text = "!(e>10&g<2)|w=1-r+l&!!t=u";
    for (int size = 0; size <= text.length(); size++) {
      String part = text.substring(0, size);
      boolean whole = part.equals("!(e>10&g<2)") || part.endsWith("w=1") || part.endsWith("-r") || part.endsWith("+l")
          || part.endsWith("t=u");
      faultOf(part, whole ? -4 : size);
    }
  }

  /** "a NUMBER of 1 to 4 digits without 0 ahead of others". */
  private static void numbers() {
    String[] texts = {"0=0", "1=1", "10=10", "9999=9999", "1000=1000", "00=0", "0=00", "01=1", "1=01", "0001=1",
        "10000=1", "1=10000", "1=99999", "1=1+0", "1=1+00", "1=1-12345", "12345"};
    int[] faults = {-4, -4, -4, -4, -4, 1, 3, 1, 3, 1, 4, 6, 6, -4, 5, 8, 4};
    for (int i = 0; i < texts.length; i++) {
      faultOf(texts[i], faults[i]);
    }
  }

  /** "( at most 8 deep". */
  private static void depths() {
    for (int depth = 0; depth <= 12; depth++) {
      String text = times("(", depth) + "1=1" + times(")", depth);
      faultOf(text, depth <= 8 ? -4 : 8);
      faultOf(times("!(", depth) + "1=1" + times(")", depth), depth <= 8 ? -4 : 17);
      faultOf(text + ")", depth <= 8 ? 2 * depth + 3 : 8);
    }
    faultOf(times("(1=1)&", 19) + "(1=1)", -4);
    faultOf("1=1|" + DEEP + "1=1))))))))|" + DEEP + "1=1))))))))", -4);
    faultOf("1=1|" + DEEP + "1=1))))))))|" + DEEP + "(1=1", 32);
    faultOf(times("(1=1)&(", 7) + "(1=1)" + times(")", 7), -4);
    faultOf(times("(1=1)&(", 8) + "(1=1)" + times(")", 8), 56);
  }

  /** A ROW has 120 elements at most: a RULE of as many is read to its end, whatever it is made of. */
  private static void asMuchAsARowHolds() {
    faultOf(times("!", 117) + "1=1", -4);
    faultOf(times("!", 120), 120);
    faultOf(times("!", 119) + "&", 119);
    faultOf(times("!", 118) + "1=", 120);
    faultOf(times("1=1&", 29) + "1=11", -4);
    faultOf(times("1=1|", 30), 120);
    faultOf(times("1=1|", 29) + "1=1)", 119);
    faultOf("1=" + times("1+", 58) + "10", -4);
    faultOf("1=" + times("1-", 59), 120);
    faultOf(times("1+", 58) + "1=11", -4);
    faultOf(times("1+", 58) + "1+11", 120);
    faultOf(times("1+", 59) + "+1", 118);
    GearTeeth x = Check.plant("g0 9 0;g0 9 1;m0 1;");
    Check.write(x, 0, times("1=2|", 29) + "1=1");
    due("30 tests", x.rule(0), 0);
    due("the last one holds", x.holds(0, 0), 1);
    x.put(0, 118, '2');
    due("30 tests", x.rule(0), 1);
    due("none holds", x.holds(1, 0), 0);
    Check.write(x, 0, times("1+", 57) + "1=58");
    due("58 atoms", x.rule(0), 2);
    due("all are added", x.holds(2, 0), 1);
    Check.write(x, 0, times("!", 117) + "1=1");
    due("117 times !", x.rule(0), 3);
    due("117 times !", x.holds(3, 0), 0);
  }

  /** "-12 (no ROW of bytes)", and the lowest bits of what is put in. */
  private static void rowsOfBytes() {
    GearTeeth x = Check.plant("g0 9 0;g0 9 1;m0 1;");
    Check.fill(x, 0, 0, '1' + 256, '=' - 256, '1' + 512);
    due("lowest bits", x.rule(0), 0);
    due("holds", x.holds(0, 0), 1);
    due("the row stays", x.element(0, 1), '=');
    Check.fill(x, 1, 1, '1', '=', '1');
    due("shorts", x.fault(1), -12);
    due("shorts", x.rule(1), -12);
    x.row(2, 0, 0);
    due("nothing to read", x.fault(2), 0);
    due("nothing to read", x.rule(2), -100);
    due("one rule", x.count(2), 1);
  }

  /** "RULES are numbered, 12 at most." */
  private static void twelveRules() {
    GearTeeth x = Check.plant("g0 9 0;g0 9 1;m0 1;");
    for (int n = 0; n < 12; n++) {
      Check.write(x, 0, "1=" + (n == 11 ? 1 : 0));
      due("not yet", x.holds(n, 0), -1);
      due("not yet", x.watch(n, 0, 1), -1);
      due("rule " + n, x.rule(0), n);
      due("rules", x.count(2), n + 1);
    }
    due("a 13th", x.rule(0), -2);
    due("rules", x.count(2), 12);
    for (int n = 0; n < 12; n++) {
      due("holds " + n, x.holds(n, 0), n == 11 ? 1 : 0);
      due("watch " + n, x.watch(n, 0, 1), n == 11 ? 0 : -4);
    }
    due("behind the last", x.holds(12, 0), -1);
    due("it is a rule still", x.fault(0), -4);
  }

  private static void ruleKeepsItsText() {
    GearTeeth x = Check.plant("g0 9 0;g0 9 1;m0 1;");
    Check.write(x, 0, times("!", 116) + "1=1");
    due("the longer", x.rule(0), 0);
    Check.write(x, 0, "2=1");
    due("the shorter", x.rule(0), 1);
    Check.write(x, 0, "1=");
    due("a fault", x.rule(0), -102);
    x.keep(0, 0, 0);
    due("the longer", x.holds(0, 0), 1);
    due("the shorter", x.holds(1, 0), 0);
    due("the longer again", x.holds(0, 0), 1);
  }

  private static GearTeeth plain() {
    return Check.plant("g0 9 0;g0 9 1;m0 1;");
  }

  private static void holds(GearTeeth x, String text, boolean due) {
    if (x.count(2) == 0) {
      x.image();
    }
    Check.write(x, 7, text);
    due("rule <" + text + ">", x.rule(7), 0);
    due("holds <" + text + ">", x.holds(0, 0), due ? 1 : 0);
    x.restore();
  }

  private static void comparisons() {
    int[][] numbers = {{0, 0}, {0, 1}, {1, 0}, {9, 10}, {9999, 9999}, {9998, 9999}, {9999, 9998}, {2, 11}};
    for (int[] two : numbers) {
      GearTeeth x = plain();
      String[] signs = {"<", ">", "="};
      boolean[] dues = {two[0] < two[1], two[0] > two[1], two[0] == two[1]};
      for (int i = 0; i < 3; i++) {
        holds(x, two[0] + signs[i] + two[1], dues[i]);
        holds(x, "!" + two[0] + signs[i] + two[1], !dues[i]);
        holds(x, "0-" + two[1] + signs[i] + "0-" + two[0], dues[i]);
      }
    }
  }

  /** "from the left"; ! is of one TEST, & of what | parts. */
  private static void whatGoesAhead() {
    String[] hold = {"9-3-2=4", "9-3+2=8", "1-2+3=2", "2=1-2+3", "1-2<0", "0-1-1=0-2", "9999+9999>9999+9998",
        "1=1|1=1&1=2", "1=2&1=2|1=1", "1=2|1=2|1=1", "!1=1|1=1", "!1=2&1=1", "!(1=1&1=2)", "!!1=1", "(1=2|1=1)&1=1",
        "1=1&(1=2|1=1)", "!(1=2)&!(1=2)", "1=1&1=1&1=1", "!1=2|1=2"};
    String[] fail = {"9-3-2=8", "9-3+2=4", "1=2|1=1&1=2", "(1=1|1=1)&1=2", "1=2&(1=2|1=1)", "!1=2&1=2", "!(1=1|1=2)",
        "!!1=2", "!(1=1)&1=1", "1=1&1=1&1=2", "1=2&1=1&1=1", "1=1&1=2&1=1", "1=2|1=2|1=2", "!!!1=1"};
    for (int i = 0; i < hold.length; i++) {
      holds(plain(), hold[i], true);
    }
    for (int i = 0; i < fail.length; i++) {
      holds(plain(), fail[i], false);
    }
  }

  private static void fieldsAre(GearTeeth x, int e, int g, int w, int l, int t, int u) {
    int[] dues = {e, g, w, l, 0, t, u};
    for (int i = 0; i < 7; i++) {
      String field = FIELDS.substring(i, i + 1);
      String is = dues[i] < 0 ? "0-" + -dues[i] : "" + dues[i];
      holds(x, field + "=" + is, true);
      holds(x, field + "<" + is, false);
      holds(x, is + "<" + field, false);
    }
  }

  private static void fields() {
    GearTeeth x = plain();
    fieldsAre(x, 0, 0, 1, 0, 31, 31);
    x = plain();
    x.room(0, 0);
    fieldsAre(x, 0, -62, 1, 0, 31, 31);
    x = plain();
    Bench.flank(x, 0, Bench.bump(20, 0, 28));
    Bench.flank(x, 1, Bench.bump(21, 1, 28));
    x.room(0, 50);
    fieldsAre(x, 7, -6, 2, 49, 20, 21);
    x = plain();
    Bench.flank(x, 0, Bench.bump(0, 8, 31));
    Bench.flank(x, 1, Bench.bump(0, 9, 31));
    x.room(0, 61);
    fieldsAre(x, 31, -1, 2, 961, 0, 0);
  }

  /** "l LOUD of WHINE (9999 at most)". */
  private static void loudOfWhineAtMost() {
    int[][][] cutters = {
        {{31, 31, 31, 31, 31, 31, 31, 31, 31, 22, 31, 31, 8, 12, 31, 31},
            {31, 26, 26, 26, 27, 31, 24, 30, 31, 31, 31, 31, 31, 31, 31, 31}},
        {{31, 31, 31, 31, 31, 31, 31, 31, 31, 31, 31, 11, 31, 31, 31, 30},
            {25, 29, 31, 26, 25, 25, 31, 25, 31, 31, 31, 31, 31, 31, 31, 31}},
        {{31, 31, 31, 31, 31, 31, 31, 31, 31, 31, 31, 9, 31, 16, 23, 31},
            {31, 24, 31, 31, 31, 25, 28, 29, 31, 31, 31, 31, 31, 31, 31, 31}},
        {{31, 31, 31, 31, 31, 31, 31, 31, 31, 10, 31, 18, 30, 31, 31, 31},
            {30, 25, 29, 31, 30, 31, 31, 31, 31, 31, 31, 31, 31, 31, 31, 31}}};
    int[] louds = {9998, 9999, 10000, 10001};
    for (int i = 0; i < louds.length; i++) {
      GearTeeth x = plain();
      Check.fill(x, 0, 0, cutters[i][0]);
      x.cut(0, 0, 208);
      Check.fill(x, 0, 0, cutters[i][1]);
      x.cut(1, 0, 108);
      due("whine", x.whine(0), 1);
      due("loud", x.loud(0, 1), louds[i]);
      holds(x, "l=" + Math.min(louds[i], 9999), true);
      holds(x, "l<" + Math.min(louds[i], 9999), false);
      holds(x, "l>9999", false);
      holds(x, "l+1>9999", louds[i] >= 9999);
    }
  }

  /** "t THIN of a, u THIN of b": a is told first. */
  private static void fieldsOfBoth() {
    GearTeeth x = Check.plant("g0 9 0;g0 9 1;g0 9 2;m2 0;m0 1;");
    Bench.flank(x, 0, Bench.bump(25, 9, 20));
    Bench.flank(x, 1, Bench.bump(25, 9, 21));
    Bench.flank(x, 2, Bench.bump(25, 9, 22));
    String[] texts = {"t=22&u=20", "t=20&u=21"};
    for (int i = 0; i < 2; i++) {
      Check.write(x, 0, texts[i]);
      due("rule", x.rule(0), i);
    }
    for (int rule = 0; rule < 2; rule++) {
      for (int mesh = 0; mesh < 2; mesh++) {
        due("rule " + rule + " for " + mesh, x.holds(rule, mesh), rule == mesh ? 1 : 0);
        due("rule " + rule + " for " + mesh, x.watch(rule, mesh, 1), rule == mesh ? 0 : -4);
      }
    }
    due("rule for none", x.holds(0, 2), -1);
  }

  private static void watched(GearTeeth x, String text, int load, int due) {
    if (x.count(2) == 0) {
      x.image();
    }
    Check.write(x, 7, text);
    due("rule <" + text + ">", x.rule(7), 0);
    due("watch <" + text + ">", x.watch(0, 0, load), due);
    x.restore();
  }

  /** "the first ROUND 0 .. 200 (0: as it is) behind which it holds". */
  private static void roundsThatAreWatched() {
    GearTeeth x = plain();
    String[] texts = {"r=0", "1=1", "r<1", "r=1", "r>0", "r=2", "r=199", "r=200", "r>199", "r=201", "r>200", "1=2",
        "r>100&r<200", "r>199&r<201", "!r<200", "!r<201"};
    int[] rounds = {0, 0, 0, 1, 1, 2, 199, 200, 200, -4, -4, -4, 101, 200, 200, -4};
    for (int i = 0; i < texts.length; i++) {
      watched(x, texts[i], i % 2 == 0 ? 1 : 999, rounds[i]);
    }
    Check.write(x, 0, "r=0");
    due("rule", x.rule(0), 0);
    due("load 0", x.watch(0, 0, 0), -1);
    due("load 1", x.watch(0, 0, 1), 0);
    due("load 999", x.watch(0, 0, 999), 0);
    due("load 1000", x.watch(0, 0, 1000), -1);
  }

  /** EVEN is 0, then 1 2 2 3 4 4 5 6 6 7 8 7 7 7 6 .., and 0 from ROUND 23 on. */
  private static void asItWears() {
    GearTeeth x = Check.plant("g0 9 0;g1 9 1;m0 1;");
    Check.fill(x, 0, 0, 0, 25, 0, 0, 10, 0, 0, 0, 31, 0, 0, 0, 31, 0, 0, 0);
    x.cut(0, 0, 208);
    Check.fill(x, 0, 0, 0, 0, 0, 20, 10, 0, 31, 20, 31, 25, 10, 10, 25, 0, 0, 20);
    x.cut(1, 0, 208);
    String[] texts = {"e=0", "e=0&r>0", "e>0", "e>1", "e>2", "e=8", "e>8", "e>6&r>11", "e=7&r>14", "u<30-30", "t<0",
        "e>3&r<5", "e=6&!r<9", "e<7&r>9"};
    int[] rounds = {0, 23, 1, 2, 4, 11, -4, 12, -4, -4, -4, -4, 9, 15};
    for (int i = 0; i < texts.length; i++) {
      watched(x, texts[i], 110, rounds[i]);
    }
    watched(x, "e>0", 109, -4);
    GearTeeth y = Check.plant("g0 9 0;g1 9 1;m0 1;");
    watched(y, "t=30", 110, 1);
    watched(y, "t=1&g=30", 110, 30);
    watched(y, "t=0", 110, 31);
    watched(y, "t=0&g=31", 110, 31);
    watched(y, "u<31", 209, -4);
    watched(y, "u<31", 210, 1);
  }
}
