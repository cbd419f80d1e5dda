import java.util.ArrayList;
import java.util.Arrays;
import java.util.List;

/**
 * Objects to ask, all that such an object answers of what it holds, and calls that must leave that as it is.
 * What is made and what is asked of it stay below 512 calls together.
 */
final class Bench {
  static final int FAR = -1000000000;
  static final int LOW = Integer.MIN_VALUE;
  static final int HIGH = Integer.MAX_VALUE;
  static final int[] CUTTER = {9, 8, 7, 5, 3, 2, 1, 0, 0, 1, 2, 3, 5, 7, 8, 9};

  interface Maker {
    GearTeeth make();
  }

  interface Call {
    long on(GearTeeth x);
  }

  private final Maker maker;
  private final List<String> before;

  Bench(Maker maker) {
    this.maker = maker;
    this.before = stateOf(maker.make());
  }

  /** The call answers what is due, and all that can be asked behind it is answered as without it. */
  void leaves(String what, long due, Call call) {
    GearTeeth x = maker.make();
    Check.due(what, call.on(x), due);
    List<String> after = stateOf(x);
    for (int i = 0; i < before.size() && i < after.size(); i++) {
      if (!before.get(i).equals(after.get(i))) {
        Check.holds(what + " changes <" + before.get(i) + "> to <" + after.get(i) + ">", false);
        return;
      }
    }
    Check.due(what + " changes how much is told", after.size(), before.size());
  }

  /** Behind the call something is answered otherwise: so that `leaves` isn't blind for what it changes. */
  void changes(String what, Call call) {
    GearTeeth x = maker.make();
    call.on(x);
    Check.holds(what + " changes something", !stateOf(x).equals(before));
  }

  /**
   * Three GEARS and two MESHES, PAIRS, RULES, an IMAGE; then more of each, that THE IMAGE has not.
   * SHELVES: 0 nothing, 1 a GEAR, 2 a cutter, 3 shorts, 4 ints, 5 a TEXT, 6 a RULE, 7 what an EAR HEARD.
   */
  static GearTeeth rich() {
    GearTeeth x = Check.plant("g1 9 0;g4 39 1;g3 12 2;m0 1;m2 1;d0 1 55;");
    Check.fill(x, 2, 0, CUTTER);
    x.cut(0, 2, 208);
    x.pair(0, 10);
    x.pair(5, 20);
    for (String rule : new String[] {"e>1", "r=3"}) {
      Check.write(x, 6, rule);
      x.rule(6);
    }
    x.image();
    Check.write(x, 5, "g0 20 5;");
    x.text(5);
    x.cut(2, 2, 811);
    x.room(1, 40);
    x.pair(7, 3);
    Check.write(x, 6, "g<60");
    x.rule(6);
    x.keep(1, 1, 2);
    Check.fill(x, 3, 1, 7, -8, 9);
    Check.fill(x, 4, 2, 70000, 5, -6);
    Check.fill(x, 7, 0, 0, 1, 0, 0);
    return x;
  }

  /** 12 GEARS, 16 MESHES, 6 PAIRS, 12 RULES: nothing more has room. SHELF 7 holds a RULE, 6 nothing. */
  static GearTeeth full() {
    GearTeeth x = new GearTeeth();
    Check.say(x, "g0 4 0;g0 5 1;g0 6 1;g0 7 1;g0 8 1;g0 9 1;g0 5 2;g0 6 2;g0 7 3;g0 8 3;g0 9 4;g4 9 7;");
    Check.say(x, "m0 1;m0 2;m0 3;m0 4;m0 5;m0 6;m0 7;m0 8;m0 9;m1 2;m1 3;m1 4;m1 5;m1 6;m1 7;m11 1;");
    for (int i = 0; i < 6; i++) {
      x.pair(i, i + 1);
    }
    Check.write(x, 7, "1=1");
    for (int i = 0; i < 12; i++) {
      x.rule(7);
    }
    return x;
  }

  static GearTeeth empty() {
    return new GearTeeth();
  }

  /** SHAFT 0 goes by two ways: the plant is LOCKED. */
  static GearTeeth lockedOne() {
    return Check.plant("g0 9 0;g0 10 1;g0 11 1;m0 1;m2 0;");
  }

  /** 1 for an IllegalArgumentException, 2 for an IllegalStateException, 0 for an answer. */
  static int thrown(GearTeeth x, int d, int i) {
    try {
      x.element(d, i);
      return 0;
    } catch (IllegalArgumentException e) {
      return 1;
    } catch (IllegalStateException e) {
      return 2;
    }
  }

  /** Gives a GEAR a FLANK by SHELF 0; any will do whose WIDTH y is at most 8 above WIDTH y and 8. */
  static void flank(GearTeeth x, int gear, int... widths) {
    int[] reaches = new int[16];
    for (int y = 0; y < 16; y++) {
      reaches[y] = 31 - widths[y];
    }
    Check.fill(x, 0, 0, reaches);
    x.cut(gear, 0, 208);
    for (int y = 0; y < 16; y++) {
      Check.due("flank as wanted, " + y, x.width(gear, y), widths[y]);
    }
  }

  /** 16 WIDTHS that are low, but for one. */
  static int[] bump(int low, int y, int width) {
    int[] widths = new int[16];
    Arrays.fill(widths, low);
    widths[y] = width;
    return widths;
  }

  static List<String> stateOf(GearTeeth x) {
    List<String> told = new ArrayList<>();
    plant(x, told);
    told.add("locked " + x.locked());
    for (int shaft = 0; shaft < 8; shaft++) {
      told.add("speed " + shaft + " " + x.speed(shaft, 0) + " " + x.speed(shaft, 1));
    }
    loadsAndRules(x, told);
    for (int d = 0; d < 8; d++) {
      shelf(x, d, told);
    }
    int restored = x.restore();
    told.add("restore " + restored);
    if (restored >= 0) {
      plant(x, told);
      loadsAndRules(x, told);
    }
    return told;
  }

  private static void plant(GearTeeth x, List<String> told) {
    for (int what = 0; what <= 6; what++) {
      told.add("count " + what + " " + x.count(what));
    }
    int gears = x.count(0);
    for (int gear = 0; gear < gears; gear++) {
      told.add("gear " + gear + " " + x.gear(gear, 0) + " " + x.gear(gear, 1) + " " + x.gear(gear, 2));
      for (int y = 0; y < 16 && gear < 3; y++) {
        told.add("width " + gear + " " + y + " " + x.width(gear, y));
      }
    }
    int meshes = x.count(1);
    for (int mesh = 0; mesh < meshes; mesh++) {
      told.add("mesh " + mesh + " " + x.mesh(mesh, 0) + " " + x.mesh(mesh, 1) + " " + x.mesh(mesh, 2));
    }
  }

  private static void loadsAndRules(GearTeeth x, List<String> told) {
    told.add("pushed " + x.pushed(1) + " " + x.pushed(100) + " " + x.pushed(9999));
    for (int pair = 0; pair < 3; pair++) {
      told.add("share " + pair + " " + x.share(pair, 500));
    }
    int rules = x.count(2);
    for (int rule = 0; rule < rules && rule < 3; rule++) {
      told.add("rule " + rule + " " + x.holds(rule, 0) + " " + x.watch(rule, 1, 300));
    }
  }

  /** What a SHELF holds; of a ROW the SORT too, by what an element keeps. */
  private static void shelf(GearTeeth x, int d, List<String> told) {
    int weight = x.weight(d);
    told.add("shelf " + d + " " + weight + " " + x.toss(d));
    for (int i = 0; weight == -12 && i < 121; i++) {
      try {
        told.add("element " + d + " " + i + " " + x.element(d, i));
      } catch (IllegalStateException end) {
        break;
      }
    }
    if (x.put(d, 0, 70000) == 0) {
      told.add("sort " + d + " " + x.element(d, 0));
    }
  }
}
