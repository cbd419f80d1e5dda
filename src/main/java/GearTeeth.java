import java.util.Arrays;

/**
 * Teeth that roll: gears on shafts told in a language, how they turn, are cut, touch, wear, whine,
 * share loads and are heard to fail. The promises are numbered in ../shared/DOC.md.
 */
public final class GearTeeth {
  private static final int NO_SUCH = -1;
  private static final int NO_ROOM = -2;
  private static final int NOT_AS_THINGS_STAND = -3;
  private static final int NONE = -4;
  private static final int NOTHING_HELD = -11;
  private static final int OF_ANOTHER_KIND = -12;
  private static final int NO_SUCH_PLACE = -13;
  private static final int SIZE_BELOW_ZERO = -14;
  private static final int NO_FAILURE = -15;
  private static final int NO_SHIFT = -4000;
  private static final int RULE_FAULT = -100;
  private static final int TEXT_FAULT = -1000;
  /** Goes with refusals of calls whose answers may be below 0 themselves. */
  private static final int FAR_BELOW = -1000000000;

  private static final int GEARS = 12;
  private static final int MESHES = 16;
  private static final int SHAFTS = 8;
  private static final int SHELVES = 8;
  private static final int PLACES = 120;
  private static final int PAIRS = 6;
  private static final int RULES = 12;

  private static final int HEIGHTS = 16;
  private static final int TURNS = 16;
  private static final int WIDEST = 31;
  private static final int WIDEST_ROOM = 62;
  private static final int GREATEST_SHIFT = 8;
  private static final int STEPS = 32;
  private static final int LEAST_TEETH = 4;
  private static final int MOST_TEETH = 99;
  private static final int PLANETS = 12;
  private static final int ROUNDS = 200;
  private static final int ROUNDS_AT_ONCE = 100;
  private static final int GREATEST_MARK = 62;
  private static final int GREATEST_WEAR_LOAD = 999;
  private static final int GREATEST_LOAD = 9999;
  private static final int TONES = 8;
  private static final int TICKS = 60;

  private final Plant plant = new Plant();
  private final Plant trial = new Plant();
  private final Loads loads = new Loads();
  private final RuleBook ruleBook = new RuleBook();
  private final Plant imagePlant = new Plant();
  private final Loads imageLoads = new Loads();
  private final RuleBook imageRules = new RuleBook();
  private boolean imageTaken;
  private final Shelf[] shelves = new Shelf[SHELVES];
  private final TextReader textReader = new TextReader();
  private final RuleReader ruleReader = new RuleReader();
  private final Turning turning = new Turning();
  private final Gear spareA = new Gear();
  private final Gear spareB = new Gear();
  private final Rolling rolling = new Rolling();
  private final Listener listener = new Listener();

  /** Promise 1: no GEARS, PAIRS, RULES. */
  public GearTeeth() {
    for (int d = 0; d < SHELVES; d++) {
      shelves[d] = new Shelf();
    }
  }

  // ---- texts, gears

  /** Promise 2: reads the text in SHELF d; how many STATEMENTS, or its FAULT. */
  public int text(int d) {
    if (!isShelf(d)) {
      return NO_SUCH;
    }
    Shelf shelf = shelves[d];
    int refusal = shelf.bytesRefusal();
    if (refusal != 0) {
      return refusal;
    }
    int statements = textReader.countStatements(shelf.elements, shelf.size);
    if (textReader.stuck) {
      return TEXT_FAULT - textReader.at;
    }
    trial.takeFrom(plant);
    textReader.startOn(shelf.elements, shelf.size);
    for (int i = 0; i < statements; i++) {
      textReader.readStatement();
      if (!trial.does(textReader)) {
        return 2 * TEXT_FAULT - textReader.letterPlace;
      }
    }
    plant.takeFrom(trial);
    return statements;
  }

  /** Promise 3: what is told of a GEAR. */
  public int gear(int gear, int what) {
    if (!isGear(gear)) {
      return NO_SUCH;
    }
    Gear told = plant.gears[gear];
    switch (what) {
      case 0: return told.kind;
      case 1: return told.teeth;
      case 2: return told.shaft;
      case 3: return told.hard();
      case 4: return told.stiff();
      case 5: return told.thin();
      case 6: return told.top();
      case 7: return told.undercut();
      default: return NO_SUCH;
    }
  }

  /** Promise 4: WIDTH y of a GEAR. */
  public int width(int gear, int y) {
    if (!isGear(gear) || !isWithin(y, 0, HEIGHTS - 1)) {
      return NO_SUCH;
    }
    return plant.gears[gear].widths[y];
  }

  /** Promise 5: what is told of a MESH. */
  public int mesh(int i, int what) {
    if (!isMesh(i)) {
      return NO_SUCH;
    }
    switch (what) {
      case 0: return plant.firsts[i];
      case 1: return plant.seconds[i];
      case 2: return plant.rooms[i];
      default: return NO_SUCH;
    }
  }

  // ---- turning

  /** Promise 6: 1 if the plant is LOCKED, else 0. */
  public int locked() {
    turning.solve(plant);
    return turning.isLocked() ? 1 : 0;
  }

  /** Promise 7: SPEED of a SHAFT, above (part 0) or below the line (1). */
  public long speed(int shaft, int part) {
    if (!isWithin(shaft, 0, SHAFTS - 1) || !isWithin(part, 0, 1)) {
      return FAR_BELOW + NO_SUCH;
    }
    turning.solve(plant);
    if (turning.isLocked()) {
      return FAR_BELOW + NOT_AS_THINGS_STAND;
    }
    if (!turning.isTurned(shaft)) {
      return FAR_BELOW + NONE;
    }
    return part == 0 ? turning.aboveLine(shaft) : turning.belowLine(shaft);
  }

  /** Promise 8: HUNT (what 0), MISSED (1) of two GEARS. */
  public int hunt(int a, int b, int what) {
    if (!isGear(a) || !isGear(b) || a == b || !isWithin(what, 0, 1)) {
      return NO_SUCH;
    }
    int second = plant.gears[b].teeth;
    long common = greatestDivisor(plant.gears[a].teeth, second);
    int turns = common > 1 ? (int) (second / common) : second;
    return what == 0 ? turns : second - turns;
  }

  /** Promise 9: the teeth of n PLANETS, if they MAY be built. */
  public int planets(int s, int r, int n) {
    if (!areSunAndRing(s, r) || !isWithin(n, 1, PLANETS)) {
      return NO_SUCH;
    }
    return mayBeBuilt(s, r, n) ? (r - s) / 2 : NONE;
  }

  /** Promise 10: the greatest n with which PLANETS MAY be built. */
  public int most(int s, int r) {
    if (!areSunAndRing(s, r)) {
      return NO_SUCH;
    }
    for (int n = PLANETS; n >= 1; n--) {
      if (mayBeBuilt(s, r, n)) {
        return n;
      }
    }
    return NONE;
  }

  // ---- cutting, meshing

  /** Promise 11: cuts a GEAR by the ROW in SHELF d (told: 100 times n and SHIFT and 8). */
  public int cut(int gear, int d, int told) {
    int steps = told / 100;
    int shift = told % 100 - GREATEST_SHIFT;
    if (!isGear(gear) || !isShelf(d) || !isSteps(steps)
        || !isWithin(shift, -GREATEST_SHIFT, GREATEST_SHIFT)) {
      return NO_SUCH;
    }
    int refusal = shelves[d].cutterRefusal();
    if (refusal != 0) {
      return refusal;
    }
    plant.gears[gear].cutBy(shelves[d].elements, shift, steps);
    return plant.gears[gear].thin();
  }

  /** Promise 12: OFF of a MESH at a TURN. */
  public int off(int mesh, int turn) {
    if (!isMesh(mesh) || !isWithin(turn, 0, TURNS - 1)) {
      return FAR_BELOW + NO_SUCH;
    }
    rollAsItIs(mesh);
    return rolling.offs[turn];
  }

  /** Promise 13: TOUCH of a MESH at a TURN. */
  public int touch(int mesh, int turn) {
    if (!isMesh(mesh) || !isWithin(turn, 0, TURNS - 1)) {
      return NO_SUCH;
    }
    rollAsItIs(mesh);
    return rolling.touchAt(turn);
  }

  /** Promise 14: JAM of a MESH. */
  public int jam(int mesh) {
    if (!isMesh(mesh)) {
      return NO_SUCH;
    }
    rollAsItIs(mesh);
    return rolling.firstJam();
  }

  /** Promise 15: GAP of a MESH. */
  public int gap(int mesh) {
    if (!isMesh(mesh)) {
      return FAR_BELOW + NO_SUCH;
    }
    rollAsItIs(mesh);
    return rolling.leastOff();
  }

  /** Promise 16: EVEN of a MESH. */
  public int even(int mesh) {
    if (!isMesh(mesh)) {
      return NO_SUCH;
    }
    rollAsItIs(mesh);
    return rolling.spread();
  }

  /** Promise 17: gives a MESH another ROOM; what it was. */
  public int room(int mesh, int n) {
    if (!isMesh(mesh) || !isWithin(n, 0, WIDEST_ROOM)) {
      return NO_SUCH;
    }
    int before = plant.rooms[mesh];
    plant.rooms[mesh] = n;
    return before;
  }

  /** Promise 18: n ROUNDS of WEAR by a LOAD; EVEN then. */
  public int wear(int mesh, int load, int n) {
    if (!isMesh(mesh) || !isWearLoad(load) || !isWithin(n, 1, ROUNDS_AT_ONCE)) {
      return NO_SUCH;
    }
    rollAsItIs(mesh);
    for (int round = 0; round < n; round++) {
      rolling.wearRound(load);
    }
    rolling.measure();
    return rolling.spread();
  }

  /** Promise 19: the first ROUND behind which EVEN is MARK or more. */
  public int until(int mesh, int load, int mark) {
    if (!isMesh(mesh) || !isWearLoad(load) || !isWithin(mark, 1, GREATEST_MARK)) {
      return NO_SUCH;
    }
    rollSpares(mesh);
    for (int round = 1; round <= ROUNDS; round++) {
      rolling.wearRound(load);
      rolling.measure();
      if (rolling.spread() >= mark) {
        return round;
      }
    }
    return NONE;
  }

  /** Promise 20: LOUD of TONE k. */
  public long loud(int mesh, int k) {
    if (!isMesh(mesh) || !isWithin(k, 0, TONES)) {
      return NO_SUCH;
    }
    rollAsItIs(mesh);
    return rolling.loudness(k);
  }

  /** Promise 21: WHINE of a MESH. */
  public int whine(int mesh) {
    if (!isMesh(mesh)) {
      return NO_SUCH;
    }
    rollAsItIs(mesh);
    return rolling.loudestTone();
  }

  // ---- loads

  /** Promise 22: a PAIR more; how many. */
  public int pair(int gap, int stiff) {
    if (!isWithin(gap, 0, 99) || !isWithin(stiff, 1, 99)) {
      return NO_SUCH;
    }
    if (loads.size >= PAIRS) {
      return NO_ROOM;
    }
    loads.addPair(gap, stiff);
    return loads.size;
  }

  /** Promise 23: no PAIRS; how many there were. */
  public int clear() {
    int before = loads.size;
    loads.size = 0;
    return before;
  }

  /** Promise 24: PUSHED with a LOAD. */
  public int pushed(int load) {
    if (!isLoad(load)) {
      return NO_SUCH;
    }
    return loads.leastPush(load);
  }

  /** Promise 25: SHARE of a PAIR with a LOAD. */
  public int share(int pair, int load) {
    if (!isWithin(pair, 0, loads.size - 1) || !isLoad(load)) {
      return NO_SUCH;
    }
    int push = loads.leastPush(load);
    return push == NONE ? NOT_AS_THINGS_STAND : loads.shareAt(pair, push);
  }

  /** Promise 26: BEARING with a LOAD. */
  public int bearing(int load) {
    if (!isLoad(load)) {
      return NO_SUCH;
    }
    int push = loads.leastPush(load);
    return push == NONE ? NOT_AS_THINGS_STAND : loads.bearersAt(push);
  }

  // ---- rules

  /** Promise 27: the FAULT of the text in SHELF d; -4 if it is a RULE. */
  public int fault(int d) {
    if (!isShelf(d)) {
      return NO_SUCH;
    }
    int refusal = shelves[d].bytesRefusal();
    if (refusal != 0) {
      return refusal;
    }
    ruleReader.readAll(shelves[d].elements, shelves[d].size);
    return ruleReader.faultPlace();
  }

  /** Promise 28: the text in SHELF d is a RULE; its number. */
  public int rule(int d) {
    if (!isShelf(d)) {
      return NO_SUCH;
    }
    if (ruleBook.size >= RULES) {
      return NO_ROOM;
    }
    Shelf shelf = shelves[d];
    int refusal = shelf.bytesRefusal();
    if (refusal != 0) {
      return refusal;
    }
    ruleReader.readAll(shelf.elements, shelf.size);
    if (ruleReader.faultPlace() != NONE) {
      return RULE_FAULT - ruleReader.faultPlace();
    }
    ruleBook.addRule(shelf.elements, shelf.size);
    return ruleBook.size - 1;
  }

  /** Promise 29: whether a RULE holds for a MESH in ROUND 0. */
  public int holds(int rule, int mesh) {
    if (!isRule(rule) || !isMesh(mesh)) {
      return NO_SUCH;
    }
    rollAsItIs(mesh);
    rolling.tellFields(ruleReader.fields, 0);
    return ruleReader.readAll(ruleBook.texts[rule], ruleBook.sizes[rule]) ? 1 : 0;
  }

  /** Promise 30: the first ROUND behind which a RULE holds, as a MESH WEARS. */
  public int watch(int rule, int mesh, int load) {
    if (!isRule(rule) || !isMesh(mesh) || !isWearLoad(load)) {
      return NO_SUCH;
    }
    rollSpares(mesh);
    for (int round = 0; round <= ROUNDS; round++) {
      rolling.tellFields(ruleReader.fields, round);
      if (ruleReader.readAll(ruleBook.texts[rule], ruleBook.sizes[rule])) {
        return round;
      }
      rolling.wearRound(load);
      rolling.measure();
    }
    return NONE;
  }

  // ---- ears, shifts

  /** Promise 31: SETS that FIT what was HEARD: how many (what 0), BLAMED (1), MAYBE (2). */
  public int ear(int d, int what) {
    if (!isShelf(d) || !isWithin(what, 0, 2)) {
      return NO_SUCH;
    }
    Shelf shelf = shelves[d];
    int refusal = shelf.earRefusal();
    if (refusal != 0) {
      return refusal;
    }
    listener.listen(plant, shelf.elements, shelf.size);
    switch (what) {
      case 0: return listener.sets;
      case 1: return listener.blamed();
      default: return listener.maybe();
    }
  }

  /** Promise 32: BEST SHIFT for a of a MESH by the ROW in SHELF d in n STEPS. */
  public int bestShift(int mesh, int d, int n) {
    if (!isMesh(mesh) || !isShelf(d) || !isSteps(n)) {
      return FAR_BELOW + NO_SUCH;
    }
    int refusal = shelves[d].cutterRefusal();
    if (refusal != 0) {
      return FAR_BELOW + refusal;
    }
    rollSpares(mesh);
    int best = NO_SHIFT;
    int least = WIDEST_ROOM + 1;
    for (int i = 0; i <= 2 * GREATEST_SHIFT; i++) {
      // in this order, 0, 1, -1, 2, -2, .., the first of several is the one that is wanted
      int shift = i % 2 == 1 ? (i + 1) / 2 : -(i / 2);
      spareA.cutBy(shelves[d].elements, shift, n);
      rolling.measure();
      if (rolling.firstJam() == NONE && rolling.spread() < least) {
        least = rolling.spread();
        best = shift;
      }
    }
    return best;
  }

  /** Promise 33: SHIFTS that would make the FLANK of a GEAR as it is: how many, or the i-th and 8. */
  public int readBack(int gear, int d, int n, int i) {
    if (!isGear(gear) || !isShelf(d) || !isSteps(n) || i < -1) {
      return NO_SUCH;
    }
    int refusal = shelves[d].cutterRefusal();
    if (refusal != 0) {
      return refusal;
    }
    int found = 0;
    for (int shift = -GREATEST_SHIFT; shift <= GREATEST_SHIFT; shift++) {
      spareA.cutBy(shelves[d].elements, shift, n);
      if (spareA.hasFlankOf(plant.gears[gear])) {
        if (found == i) {
          return shift + GREATEST_SHIFT;
        }
        found++;
      }
    }
    return i == -1 ? found : NONE;
  }

  // ---- the image, what is told

  /** Promise 34: takes THE IMAGE; how many GEARS. */
  public int image() {
    imagePlant.takeFrom(plant);
    imageLoads.takeFrom(loads);
    imageRules.takeFrom(ruleBook);
    imageTaken = true;
    return plant.gearCount;
  }

  /** Promise 35: all but SHELVES is as THE IMAGE has it; how many GEARS. */
  public int restore() {
    if (!imageTaken) {
      return NOT_AS_THINGS_STAND;
    }
    plant.takeFrom(imagePlant);
    loads.takeFrom(imageLoads);
    ruleBook.takeFrom(imageRules);
    return plant.gearCount;
  }

  /** Promise 36: how many there are of what is asked. */
  public int count(int what) {
    switch (what) {
      case 0: return plant.gearCount;
      case 1: return plant.meshCount;
      case 2: return ruleBook.size;
      case 3: return loads.size;
      case 4: return plant.allTeeth();
      case 5: return plant.allWidths();
      case 6:
        turning.solve(plant);
        return turning.countTurned();
      default: return NO_SUCH;
    }
  }

  // ---- shelves

  /** Promise 37: SHELF d gets nothing (what 0) or GEAR k (1). */
  public int keep(int d, int what, int k) {
    if (!isShelf(d) || !isWithin(what, 0, 1) || what == 1 && !isGear(k)) {
      return NO_SUCH;
    }
    if (what == 0) {
      shelves[d].holdNothing();
    } else {
      shelves[d].holdGear(plant.gears[k]);
    }
    return 0;
  }

  /** Promise 38: SHELF d gets a ROW of n elements. */
  public int row(int d, int sort, int n) {
    if (!isShelf(d) || !isWithin(sort, 0, 2) || n > PLACES) {
      return NO_SUCH;
    }
    if (n < 0) {
      return SIZE_BELOW_ZERO;
    }
    shelves[d].holdRow(sort, n);
    return 0;
  }

  /** Promise 39: element i of the ROW in SHELF d becomes v. */
  public int put(int d, int i, int v) {
    if (!isShelf(d)) {
      return NO_SUCH;
    }
    Shelf shelf = shelves[d];
    int refusal = shelf.rowRefusal();
    if (refusal != 0) {
      return refusal;
    }
    if (!shelf.hasPlace(i)) {
      return NO_SUCH_PLACE;
    }
    shelf.setElement(i, v);
    return 0;
  }

  /** Promise 40: element i of the ROW in SHELF d. */
  public long element(int d, int i) throws IllegalArgumentException, IllegalStateException {
    if (!isShelf(d)) {
      throw new IllegalArgumentException("no such shelf");
    }
    if (!shelves[d].holdsRow() || !shelves[d].hasPlace(i)) {
      throw new IllegalStateException("no row, or no such place in it");
    }
    return shelves[d].elements[i];
  }

  /** Promise 41: n elements of the ROW in SHELF d from i on come to that in SHELF e from j on. */
  public int copy(int d, int i, int e, int j, int n) {
    if (!isShelf(d) || !isShelf(e)) {
      return NO_SUCH;
    }
    Shelf from = shelves[d];
    Shelf to = shelves[e];
    if (from.holdsNothing() || to.holdsNothing()) {
      return NOTHING_HELD;
    }
    if (!from.holdsRow() || !to.holdsRow() || from.sort != to.sort) {
      return OF_ANOTHER_KIND;
    }
    if (!from.hasPlaces(i, n) || !to.hasPlaces(j, n)) {
      return NO_SUCH_PLACE;
    }
    System.arraycopy(from.elements, i, to.elements, j, n);
    return n;
  }

  /** Promise 42: the WEIGHT of the GEAR on SHELF d. */
  public int weight(int d) {
    if (!isShelf(d)) {
      return NO_SUCH;
    }
    int refusal = shelves[d].gearRefusal();
    return refusal != 0 ? refusal : shelves[d].held.heaviness();
  }

  /** Promise 43: throws the FAILURE of the GEAR on SHELF d, and catches it; its number. */
  public int toss(int d) {
    if (!isShelf(d)) {
      return NO_SUCH;
    }
    int refusal = shelves[d].gearRefusal();
    if (refusal != 0) {
      return refusal;
    }
    try {
      shelves[d].held.fail();
    } catch (IllegalStateException failure) {
      return shelves[d].held.failureNumber();
    }
    return NO_FAILURE;
  }

  // ---- what several calls ask

  private static boolean isWithin(int n, int least, int greatest) {
    return n >= least && n <= greatest;
  }

  private static boolean isShelf(int d) {
    return isWithin(d, 0, SHELVES - 1);
  }

  private boolean isGear(int gear) {
    return isWithin(gear, 0, plant.gearCount - 1);
  }

  private boolean isMesh(int mesh) {
    return isWithin(mesh, 0, plant.meshCount - 1);
  }

  private boolean isRule(int rule) {
    return isWithin(rule, 0, ruleBook.size - 1);
  }

  private static boolean isSteps(int n) {
    return isWithin(n, 1, STEPS);
  }

  private static boolean isWearLoad(int load) {
    return isWithin(load, 1, GREATEST_WEAR_LOAD);
  }

  private static boolean isLoad(int load) {
    return isWithin(load, 0, GREATEST_LOAD);
  }

  private static boolean areSunAndRing(int s, int r) {
    return isWithin(s, LEAST_TEETH, MOST_TEETH) && isWithin(r, LEAST_TEETH, MOST_TEETH);
  }

  private static boolean mayBeBuilt(int s, int r, int n) {
    if (n < 1 || r - s < 8 || (r - s) % 2 != 0 || (s + r) % n != 0) {
      return false;
    }
    int teeth = (r - s) / 2;
    return n * (teeth + 2) <= 3 * (s + teeth);
  }

  /** The greatest common divisor of a and b, both 0 or more. */
  private static long greatestDivisor(long a, long b) {
    long divisor = a;
    long rest = b;
    for (int i = 0; i < 200 && rest != 0; i++) {
      long next = divisor % rest;
      divisor = rest;
      rest = next;
    }
    return divisor;
  }

  private void rollAsItIs(int mesh) {
    rolling.roll(plant.gears[plant.firsts[mesh]], plant.gears[plant.seconds[mesh]], plant.rooms[mesh]);
  }

  /** Rolls copies of the two GEARS of a MESH, for calls that change nothing. */
  private void rollSpares(int mesh) {
    spareA.takeFrom(plant.gears[plant.firsts[mesh]]);
    spareB.takeFrom(plant.gears[plant.seconds[mesh]]);
    rolling.roll(spareA, spareB, plant.rooms[mesh]);
  }

  /** A GEAR of any KIND, with its FLANK. */
  private static final class Gear {
    private static final int WHEEL = 1;
    private static final int CRACKED = 2;
    private static final int PLANET = 3;
    private static final int RING = 4;
    private static final int GEAR_HARD = 10;
    private static final int WHEEL_HARD = 2 * GEAR_HARD;
    private static final int GEAR_STIFF = 8;
    private static final int WHEEL_STIFF = GEAR_STIFF + 4;
    private static final int[] HARD_BY_KIND =
        {GEAR_HARD, WHEEL_HARD, WHEEL_HARD - 15, WHEEL_HARD + 5, GEAR_HARD};
    private static final int[] STIFF_BY_KIND =
        {GEAR_STIFF, WHEEL_STIFF, WHEEL_STIFF / 2, WHEEL_STIFF, 2 * GEAR_STIFF};

    int number;
    int kind;
    int teeth = LEAST_TEETH;
    int shaft;
    final int[] widths = new int[HEIGHTS];

    void become(int itsNumber, int itsKind, int itsTeeth, int itsShaft) {
      number = itsNumber;
      kind = itsKind;
      teeth = itsTeeth;
      shaft = itsShaft;
      Arrays.fill(widths, WIDEST);
    }

    void takeFrom(Gear other) {
      number = other.number;
      kind = other.kind;
      teeth = other.teeth;
      shaft = other.shaft;
      System.arraycopy(other.widths, 0, widths, 0, HEIGHTS);
    }

    boolean isRing() {
      return kind == RING;
    }

    int hard() {
      return isRing() ? HARD_BY_KIND[RING] + teeth / 10 : HARD_BY_KIND[kind];
    }

    int stiff() {
      return STIFF_BY_KIND[kind];
    }

    int thin() {
      int least = widths[0];
      for (int y = 1; y < HEIGHTS; y++) {
        least = Math.min(least, widths[y]);
      }
      return least;
    }

    int top() {
      return widths[HEIGHTS - 1];
    }

    int undercut() {
      int widestAhead = widths[0];
      for (int y = 0; y < HEIGHTS - 1; y++) {
        if (widths[y] < widths[y + 1] && widths[y] < widestAhead) {
          return y;
        }
        widestAhead = Math.max(widestAhead, widths[y]);
      }
      return NONE;
    }

    int sumOfWidths() {
      int sum = 0;
      for (int y = 0; y < HEIGHTS; y++) {
        sum += widths[y];
      }
      return sum;
    }

    boolean hasFlankOf(Gear other) {
      for (int y = 0; y < HEIGHTS; y++) {
        if (widths[y] != other.widths[y]) {
          return false;
        }
      }
      return true;
    }

    void cutBy(int[] reaches, int shift, int steps) {
      Arrays.fill(widths, WIDEST);
      for (int k = 0; k < steps; k++) {
        cutOnce(reaches, shift, 16 * k / steps - 8);
      }
    }

    private void cutOnce(int[] reaches, int shift, int up) {
      for (int y = 0; y < HEIGHTS; y++) {
        int place = y - up;
        if (isWithin(place, 0, HEIGHTS - 1)) {
          int left = WIDEST - (reaches[place] + shift - up * up / 8);
          widths[y] = Math.min(widths[y], Math.max(left, 0));
        }
      }
    }

    void wearAt(int y) {
      widths[y] = Math.max(widths[y] - 1, 0);
    }

    int heaviness() {
      int plain = 100 + teeth + hard();
      switch (kind) {
        case WHEEL: return plain + thin();
        case CRACKED: return plain + thin();
        case PLANET: return 2 * (plain + thin());
        case RING: return plain + top();
        default: return plain;
      }
    }

    /** Throws the FAILURE of this GEAR, if it has one. */
    void fail() {
      if (!isRing() && !(kind == PLANET && thin() == WIDEST)) {
        throw new IllegalStateException("this gear fails");
      }
    }

    int failureNumber() {
      return kind == CRACKED ? number + 100 + thin() : number;
    }
  }

  /** GEARS and MESHES, as they came. */
  private static final class Plant {
    final Gear[] gears = new Gear[GEARS];
    int gearCount;
    final int[] firsts = new int[MESHES];
    final int[] seconds = new int[MESHES];
    final int[] rooms = new int[MESHES];
    int meshCount;

    Plant() {
      for (int i = 0; i < GEARS; i++) {
        gears[i] = new Gear();
      }
    }

    void takeFrom(Plant other) {
      gearCount = other.gearCount;
      for (int i = 0; i < gearCount; i++) {
        gears[i].takeFrom(other.gears[i]);
      }
      meshCount = other.meshCount;
      System.arraycopy(other.firsts, 0, firsts, 0, MESHES);
      System.arraycopy(other.seconds, 0, seconds, 0, MESHES);
      System.arraycopy(other.rooms, 0, rooms, 0, MESHES);
    }

    /** Does the STATEMENT that was just read; false if it isn't as told. */
    boolean does(TextReader told) {
      switch (told.letter) {
        case 'g': return addGear(told.numbers[0], told.numbers[1], told.numbers[2]);
        case 'm': return addMesh(told.numbers[0], told.numbers[1]);
        default: return setRoom(told.numbers[0], told.numbers[1], told.numbers[2]);
      }
    }

    private boolean addGear(int kind, int teeth, int shaft) {
      if (!isWithin(kind, 0, Gear.RING) || !isWithin(teeth, LEAST_TEETH, MOST_TEETH)
          || !isWithin(shaft, 0, SHAFTS - 1) || gearCount >= GEARS) {
        return false;
      }
      gears[gearCount].become(gearCount, kind, teeth, shaft);
      gearCount++;
      return true;
    }

    private boolean addMesh(int a, int b) {
      if (!isWithin(a, 0, gearCount - 1) || !isWithin(b, 0, gearCount - 1) || a == b
          || gears[a].isRing() && gears[b].isRing() || meshOf(a, b) != NONE || meshCount >= MESHES) {
        return false;
      }
      firsts[meshCount] = a;
      seconds[meshCount] = b;
      rooms[meshCount] = WIDEST_ROOM;
      meshCount++;
      return true;
    }

    private boolean setRoom(int a, int b, int room) {
      int mesh = meshOf(a, b);
      if (mesh == NONE || !isWithin(room, 0, WIDEST_ROOM)) {
        return false;
      }
      rooms[mesh] = room;
      return true;
    }

    private int meshOf(int a, int b) {
      for (int i = 0; i < meshCount; i++) {
        if (firsts[i] == a && seconds[i] == b || firsts[i] == b && seconds[i] == a) {
          return i;
        }
      }
      return NONE;
    }

    int allTeeth() {
      int sum = 0;
      for (int i = 0; i < gearCount; i++) {
        sum += gears[i].teeth;
      }
      return sum;
    }

    int allWidths() {
      int sum = 0;
      for (int i = 0; i < gearCount; i++) {
        sum += gears[i].sumOfWidths();
      }
      return sum;
    }
  }

  /** Goes through bytes one by one; where no text can go on it is stuck, and stays there. */
  private abstract static class Reader {
    private int[] bytes = new int[0];
    private int size;
    int at;
    boolean stuck;

    void startOn(int[] itsBytes, int itsSize) {
      bytes = itsBytes;
      size = Math.min(itsSize, itsBytes.length);
      at = 0;
      stuck = false;
    }

    boolean isAtEnd() {
      return at >= size;
    }

    /** The byte that comes; one that no text has behind the end, or where it is stuck. */
    int coming() {
      return stuck || at >= size ? -1 : bytes[at];
    }

    boolean takes(char sign) {
      if (coming() != sign) {
        return false;
      }
      at++;
      return true;
    }

    void takeOrStop(char sign) {
      if (!takes(sign)) {
        stuck = true;
      }
    }

    /** Takes a number of 1 to so many digits, with no 0 ahead of another; else it is stuck. */
    int takeNumber(int digits) {
      int first = coming();
      if (!isWithin(first, '0', '9')) {
        stuck = true;
        return 0;
      }
      at++;
      int number = first - '0';
      for (int i = 1; i < digits && number != 0 && isWithin(coming(), '0', '9'); i++) {
        number = 10 * number + coming() - '0';
        at++;
      }
      return number;
    }
  }

  /** Reads TEXTS, STATEMENT by STATEMENT. */
  private static final class TextReader extends Reader {
    int letter;
    int letterPlace;
    final int[] numbers = new int[3];

    /** Reads all of a text; how many STATEMENTS, if it isn't stuck then. */
    int countStatements(int[] bytes, int size) {
      startOn(bytes, size);
      int statements = 0;
      do {
        readStatement();
        statements++;
      } while (!stuck && !isAtEnd() && statements < size);
      return statements;
    }

    void readStatement() {
      letterPlace = at;
      letter = coming();
      if (letter != 'g' && letter != 'm' && letter != 'd') {
        stuck = true;
        return;
      }
      at++;
      int wanted = letter == 'm' ? 2 : 3;
      for (int i = 0; i < wanted; i++) {
        if (i > 0) {
          takeOrStop(' ');
        }
        numbers[i] = takeNumber(2);
      }
      takeOrStop(';');
    }
  }

  /** What turns how fast: SPEEDS of all SHAFTS with SHAFT 0 at SPEED 1. */
  private static final class Turning {
    /** The first SHAFT of those that hang together with each; -1 before it is known. */
    private final int[] roots = new int[SHAFTS];
    private final long[] above = new long[SHAFTS];
    private final long[] below = new long[SHAFTS];
    /** By roots: whether those that hang together can only stand. */
    private final boolean[] stands = new boolean[SHAFTS];
    private long nextAbove;
    private long nextBelow = 1;

    void solve(Plant plant) {
      Arrays.fill(roots, -1);
      for (int shaft = 0; shaft < SHAFTS; shaft++) {
        stands[shaft] = false;
        if (roots[shaft] < 0) {
          turnAllFrom(shaft, plant);
        }
      }
      for (int i = 0; i < plant.meshCount; i++) {
        checkMesh(plant.gears[plant.firsts[i]], plant.gears[plant.seconds[i]]);
      }
    }

    /** Turns a SHAFT by 1, and all that hangs on it. */
    private void turnAllFrom(int root, Plant plant) {
      roots[root] = root;
      above[root] = 1;
      below[root] = 1;
      for (int pass = 1; pass < SHAFTS; pass++) {
        for (int i = 0; i < plant.meshCount; i++) {
          Gear a = plant.gears[plant.firsts[i]];
          Gear b = plant.gears[plant.seconds[i]];
          drive(a, b);
          drive(b, a);
        }
      }
    }

    private void drive(Gear from, Gear to) {
      if (roots[from.shaft] < 0 || roots[to.shaft] >= 0) {
        return;
      }
      findNext(from, to);
      roots[to.shaft] = roots[from.shaft];
      above[to.shaft] = nextAbove;
      below[to.shaft] = nextBelow;
    }

    private void checkMesh(Gear a, Gear b) {
      findNext(a, b);
      if (above[b.shaft] != nextAbove || below[b.shaft] != nextBelow) {
        stands[roots[b.shaft]] = true;
      }
    }

    /** The SPEED of one that MESHES with one whose SPEED is known, in least terms. */
    private void findNext(Gear from, Gear to) {
      boolean alike = from.isRing() || to.isRing();
      // a SHAFT is at most 7 MESHES off its root: 99 to the 8th stays far below the greatest long
      nextAbove = above[from.shaft] * from.teeth * (alike ? 1 : -1);
      nextBelow = below[from.shaft] * to.teeth;
      long common = greatestDivisor(Math.abs(nextAbove), nextBelow);
      if (common > 1) {
        nextAbove /= common;
        nextBelow /= common;
      }
    }

    boolean isLocked() {
      return stands[0];
    }

    boolean isTurned(int shaft) {
      return roots[shaft] == 0 || stands[roots[shaft]];
    }

    long aboveLine(int shaft) {
      return stands[roots[shaft]] ? 0 : above[shaft];
    }

    long belowLine(int shaft) {
      return stands[roots[shaft]] ? 1 : below[shaft];
    }

    int countTurned() {
      int turned = 0;
      for (int shaft = 0; shaft < SHAFTS && !isLocked(); shaft++) {
        turned += isTurned(shaft) ? 1 : 0;
      }
      return turned;
    }
  }

  /** Two FLANKS that roll on one another. */
  private static final class Rolling {
    private static final int[] COS =
        {1000, 924, 707, 383, 0, -383, -707, -924, -1000, -924, -707, -383, 0, 383, 707, 924};

    private Gear a = new Gear();
    private Gear b = new Gear();
    private int room;
    /** OFF by TURNS, as it was when last measured. */
    final int[] offs = new int[TURNS];

    void roll(Gear first, Gear second, int itsRoom) {
      a = first;
      b = second;
      room = itsRoom;
      measure();
    }

    void measure() {
      for (int turn = 0; turn < TURNS; turn++) {
        offs[turn] = room - bothAt(touchAt(turn), turn);
      }
    }

    private static int facing(int y, int turn) {
      return (15 - y + turn) % HEIGHTS;
    }

    private int bothAt(int y, int turn) {
      return a.widths[y] + b.widths[facing(y, turn)];
    }

    int touchAt(int turn) {
      int touch = 0;
      int greatest = bothAt(0, turn);
      for (int y = 1; y < HEIGHTS; y++) {
        int both = bothAt(y, turn);
        if (both > greatest) {
          greatest = both;
          touch = y;
        }
      }
      return touch;
    }

    int firstJam() {
      for (int turn = 0; turn < TURNS; turn++) {
        if (offs[turn] < 0) {
          return turn;
        }
      }
      return NONE;
    }

    int leastOff() {
      int least = offs[0];
      for (int turn = 1; turn < TURNS; turn++) {
        least = Math.min(least, offs[turn]);
      }
      return least;
    }

    /** EVEN: by how much OFF differs from TURN to TURN. */
    int spread() {
      int greatest = offs[0];
      for (int turn = 1; turn < TURNS; turn++) {
        greatest = Math.max(greatest, offs[turn]);
      }
      return greatest - leastOff();
    }

    long loudness(int tone) {
      long cosines = 0;
      long sines = 0;
      for (int turn = 0; turn < TURNS; turn++) {
        int angle = tone * turn % TURNS;
        cosines += offs[turn] * COS[angle];
        sines += offs[turn] * COS[(angle + 12) % TURNS];
      }
      return (cosines * cosines + sines * sines) / 1000000;
    }

    int loudestTone() {
      int loudest = 1;
      for (int tone = 2; tone <= TONES; tone++) {
        if (loudness(tone) > loudness(loudest)) {
          loudest = tone;
        }
      }
      return loudest;
    }

    /** One ROUND of WEAR; what was measured stays as it was. */
    void wearRound(int load) {
      boolean wearsA = a.hard() < load / 10;
      boolean wearsB = b.hard() < load / 10;
      for (int turn = 0; turn < TURNS; turn++) {
        int y = touchAt(turn);
        if (wearsA) {
          a.wearAt(y);
        }
        if (wearsB) {
          b.wearAt(facing(y, turn));
        }
      }
    }

    /** Tells the FIELDS of RULES, in the order of RuleReader.FIELD_SIGNS. */
    void tellFields(int[] fields, int round) {
      int tone = loudestTone();
      fields[0] = spread();
      fields[1] = leastOff();
      fields[2] = tone;
      fields[3] = (int) Math.min(loudness(tone), 9999L);
      fields[4] = round;
      fields[5] = a.thin();
      fields[6] = b.thin();
    }
  }

  /** PAIRS, and how they share a LOAD. */
  private static final class Loads {
    private static final int FARTHEST = 9999;
    private final int[] gaps = new int[PAIRS];
    private final int[] stiffnesses = new int[PAIRS];
    int size;

    void takeFrom(Loads other) {
      size = other.size;
      System.arraycopy(other.gaps, 0, gaps, 0, PAIRS);
      System.arraycopy(other.stiffnesses, 0, stiffnesses, 0, PAIRS);
    }

    void addPair(int gap, int stiffness) {
      gaps[size] = gap;
      stiffnesses[size] = stiffness;
      size++;
    }

    int shareAt(int pair, int push) {
      return stiffnesses[pair] * Math.max(push - gaps[pair], 0);
    }

    private int sumAt(int push) {
      int sum = 0;
      for (int pair = 0; pair < size; pair++) {
        sum += shareAt(pair, push);
      }
      return sum;
    }

    int leastPush(int load) {
      if (sumAt(FARTHEST) < load) {
        return NONE;
      }
      // the sum never falls as the push grows, so halving finds the least
      int low = 0;
      int high = FARTHEST;
      for (int i = 0; i < 32 && low < high; i++) {
        int middle = (low + high) / 2;
        if (sumAt(middle) >= load) {
          high = middle;
        } else {
          low = middle + 1;
        }
      }
      return low;
    }

    int bearersAt(int push) {
      int bits = 0;
      for (int pair = 0; pair < size; pair++) {
        if (shareAt(pair, push) > 0) {
          bits |= 1 << pair;
        }
      }
      return bits;
    }
  }

  /** The texts of RULES, by their numbers. */
  private static final class RuleBook {
    final int[][] texts = new int[RULES][PLACES];
    final int[] sizes = new int[RULES];
    int size;

    void takeFrom(RuleBook other) {
      size = 0;
      for (int rule = 0; rule < other.size; rule++) {
        addRule(other.texts[rule], other.sizes[rule]);
      }
    }

    void addRule(int[] bytes, int itsSize) {
      System.arraycopy(bytes, 0, texts[size], 0, itsSize);
      sizes[size] = itsSize;
      size++;
    }
  }

  /** Reads RULES: where their FAULT is, and whether they hold with the FIELDS that are told. */
  private static final class RuleReader extends Reader {
    private static final int DEEPEST = 8;
    private static final int[] FIELD_SIGNS = {'e', 'g', 'w', 'l', 'r', 't', 'u'};

    final int[] fields = new int[7];

    /** Reads all of a text; whether it holds, if it isn't stuck then. */
    boolean readAll(int[] bytes, int size) {
      startOn(bytes, size);
      boolean held = readOr(0);
      stuck = stuck || !isAtEnd();
      return held;
    }

    int faultPlace() {
      return stuck ? at : NONE;
    }

    private boolean readOr(int depth) {
      boolean any = false;
      boolean all = true;
      for (int tests = 0; tests < PLACES; tests++) {
        all = readTest(depth) && all;
        if (!takes('&')) {
          any = any || all;
          all = true;
          if (!takes('|')) {
            break;
          }
        }
      }
      return any;
    }

    private boolean readTest(int depth) {
      boolean wanted = true;
      for (int i = 0; i < PLACES && takes('!'); i++) {
        wanted = !wanted;
      }
      boolean held;
      if (depth < DEEPEST && takes('(')) {
        held = readOr(depth + 1);
        takeOrStop(')');
      } else {
        int left = readSum();
        int sign = coming();
        takeOrStop(sign == '<' || sign == '>' ? (char) sign : '=');
        int right = readSum();
        held = sign == '<' ? left < right : sign == '>' ? left > right : left == right;
      }
      return held == wanted;
    }

    private int readSum() {
      int sum = readAtom();
      for (int i = 0; i < PLACES; i++) {
        if (takes('+')) {
          sum += readAtom();
        } else if (takes('-')) {
          sum -= readAtom();
        } else {
          break;
        }
      }
      return sum;
    }

    private int readAtom() {
      int sign = coming();
      for (int i = 0; i < FIELD_SIGNS.length; i++) {
        if (sign == FIELD_SIGNS[i]) {
          at++;
          return fields[i];
        }
      }
      return takeNumber(4);
    }
  }

  /** Finds the SETS of FAULTS that FIT what an EAR HEARD; TICKS are the bits of a long. */
  private static final class Listener {
    private final Gear[] gears = new Gear[GEARS];
    private int gearCount;
    private int ticks;
    private long heard;
    private int firstHeard;
    /** By GEARS: where the one FAULT sounds that sounds at the first TICK that was HEARD. */
    private final long[] earliest = new long[GEARS];
    /** By GEARS: how many FAULTS sound at no TICK but those that were HEARD. */
    private final int[] inside = new int[GEARS];
    /** By GEARS: how many SETS that FIT have a FAULT of it. */
    private final int[] uses = new int[GEARS];
    int sets;

    void listen(Plant plant, int[] row, int size) {
      hear(row, size);
      gearCount = plant.gearCount;
      for (int i = 0; i < gearCount; i++) {
        gears[i] = plant.gears[i];
        earliest[i] = soundAt(i, firstHeard);
        inside[i] = countInside(i);
        uses[i] = 0;
      }
      sets = heard == 0 ? 1 : 0;
      for (int i = 0; i < gearCount; i++) {
        addSets(countSingles(i), i, i);
        for (int j = i + 1; j < gearCount; j++) {
          addSets(countPairs(i, j), i, j);
        }
      }
    }

    private void hear(int[] row, int size) {
      ticks = Math.min(size, TICKS);
      heard = 0;
      for (int tick = 0; tick < ticks; tick++) {
        if (row[tick] == 1) {
          heard |= 1L << tick;
        }
      }
      firstHeard = firstTick(heard);
    }

    private static int firstTick(long sound) {
      for (int tick = 0; tick < TICKS; tick++) {
        if ((sound >> tick & 1L) != 0) {
          return tick;
        }
      }
      return 0;
    }

    /** Where the FAULT of a GEAR sounds that sounds at a TICK. */
    private long soundAt(int gear, int tick) {
      int teeth = Math.max(gears[gear].teeth, 1);
      long sound = 0;
      for (int t = tick % teeth; t < ticks; t += teeth) {
        sound |= 1L << t;
      }
      return sound;
    }

    private boolean isInside(long sound) {
      return (sound & ~heard) == 0;
    }

    private int countInside(int gear) {
      int teeth = gears[gear].teeth;
      // a FAULT whose PHASE is behind the last TICK is never heard
      int count = Math.max(teeth - ticks, 0);
      for (int phase = 0; phase < Math.min(teeth, ticks); phase++) {
        count += isInside(soundAt(gear, phase)) ? 1 : 0;
      }
      return count;
    }

    private void addSets(int count, int gear, int other) {
      sets += count;
      uses[gear] += count;
      if (other != gear) {
        uses[other] += count;
      }
    }

    private int countSingles(int gear) {
      if (heard == 0) {
        return inside[gear];
      }
      return earliest[gear] == heard ? 1 : 0;
    }

    private int countPairs(int gear, int other) {
      if (heard == 0) {
        return inside[gear] * inside[other];
      }
      // one FAULT at least sounds at the first TICK that was HEARD: both, or the one, or the other
      int both = (earliest[gear] | earliest[other]) == heard ? 1 : 0;
      return both + countBeside(gear, other) + countBeside(other, gear);
    }

    /** How many FAULTS of other FIT beside the earliest of gear and aren't earliest themselves. */
    private int countBeside(int gear, int other) {
      if (!isInside(earliest[gear])) {
        return 0;
      }
      long rest = heard & ~earliest[gear];
      if (rest == 0) {
        return inside[other] - (isInside(earliest[other]) ? 1 : 0);
      }
      long sound = soundAt(other, firstTick(rest));
      boolean fits = sound != earliest[other] && (sound | earliest[gear]) == heard;
      return fits ? 1 : 0;
    }

    int blamed() {
      int bits = 0;
      for (int i = 0; i < gearCount; i++) {
        if (sets > 0 && uses[i] == sets) {
          bits |= 1 << i;
        }
      }
      return bits;
    }

    int maybe() {
      int bits = 0;
      for (int i = 0; i < gearCount; i++) {
        if (uses[i] > 0) {
          bits |= 1 << i;
        }
      }
      return bits;
    }
  }

  /** A SHELF: it holds nothing, a GEAR as it was, or a ROW. */
  private static final class Shelf {
    private static final int NOTHING = 0;
    private static final int GEAR = 1;
    private static final int ROW = 2;
    private static final int BYTES = 0;
    private static final int SHORTS = 1;

    private int holding = NOTHING;
    final Gear held = new Gear();
    int sort;
    int size;
    final int[] elements = new int[PLACES];

    void holdNothing() {
      holding = NOTHING;
    }

    void holdGear(Gear gear) {
      holding = GEAR;
      held.takeFrom(gear);
    }

    void holdRow(int itsSort, int itsSize) {
      holding = ROW;
      sort = itsSort;
      size = itsSize;
      Arrays.fill(elements, 0);
    }

    boolean holdsNothing() {
      return holding == NOTHING;
    }

    boolean holdsRow() {
      return holding == ROW;
    }

    boolean hasPlace(int i) {
      return isWithin(i, 0, size - 1);
    }

    boolean hasPlaces(int i, int n) {
      return n >= 0 && n <= size && isWithin(i, 0, size - n);
    }

    void setElement(int i, int v) {
      switch (sort) {
        case BYTES:
          elements[i] = (byte) v;
          break;
        case SHORTS:
          elements[i] = (short) v;
          break;
        default:
          elements[i] = v;
      }
    }

    /** 0 if it holds what is wanted, else the REFUSAL; so with all that are named so. */
    private int refusalUnless(boolean asWanted) {
      if (holdsNothing()) {
        return NOTHING_HELD;
      }
      return asWanted ? 0 : OF_ANOTHER_KIND;
    }

    int gearRefusal() {
      return refusalUnless(holding == GEAR);
    }

    int rowRefusal() {
      return refusalUnless(holdsRow());
    }

    int bytesRefusal() {
      return refusalUnless(holdsRow() && sort == BYTES);
    }

    int cutterRefusal() {
      int refusal = bytesRefusal();
      if (refusal != 0) {
        return refusal;
      }
      return size == HEIGHTS && areAllWithin(WIDEST) ? 0 : NO_SUCH_PLACE;
    }

    int earRefusal() {
      int refusal = bytesRefusal();
      if (refusal != 0) {
        return refusal;
      }
      return size <= TICKS && areAllWithin(1) ? 0 : NO_SUCH_PLACE;
    }

    private boolean areAllWithin(int greatest) {
      for (int i = 0; i < size; i++) {
        if (!isWithin(elements[i], 0, greatest)) {
          return false;
        }
      }
      return true;
    }
  }
}
