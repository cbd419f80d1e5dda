/**
 * By promise: each call that is refused, with the answer due, the first of several refusals that apply, and
 * "A refused call changes nothing"; and calls that are answered and still change nothing.
 */
public final class RefusalTests {
  private static final int FAR = Bench.FAR;
  private static final int LOW = Bench.LOW;
  private static final int HIGH = Bench.HIGH;
  /** SHELVES of `rich`: what they hold, by their numbers. */
  private static final int NOTHING = 0;
  private static final int GEAR = 1;
  private static final int CUTTER = 2;
  private static final int SHORTS = 3;
  private static final int INTS = 4;
  private static final int TEXT = 5;
  private static final int RULE = 6;
  private static final int HEARD = 7;
  private static final int[] NO_SHELVES = {-1, 8, LOW, HIGH};
  private static final int[] NO_GEARS = {-1, 4, LOW, HIGH};
  private static final int[] NO_MESHES = {-1, 2, LOW, HIGH};

  private static Bench rich;
  private static Bench full;
  private static Bench empty;
  private static Bench locked;

  public static void main(String[] args) {
    rich = new Bench(Bench::rich);
    full = new Bench(Bench::full);
    empty = new Bench(Bench::empty);
    locked = new Bench(Bench::lockedOne);
    texts();
    textsWithFaults();
    gearsAndMeshes();
    turning();
    cuts();
    rolling();
    wear();
    loads();
    rules();
    watching();
    ears();
    shifts();
    imagesAndCounts();
    keepsAndRows();
    puts();
    elements();
    copies();
    weightsAndTosses();
    whatOnlyTells();
    whatChanges();
    Check.end();
  }

  private static void texts() {
    for (int d : NO_SHELVES) {
      rich.leaves("text " + d, -1, x -> x.text(d));
    }
    rich.leaves("text, nothing", -11, x -> x.text(NOTHING));
    rich.leaves("text, a gear", -12, x -> x.text(GEAR));
    rich.leaves("text, shorts", -12, x -> x.text(SHORTS));
    rich.leaves("text, ints", -12, x -> x.text(INTS));
    rich.leaves("text, a rule", -1001, x -> x.text(RULE));
  }

  private static void refusedText(String text, long due) {
    Bench asWritten = new Bench(() -> {
      GearTeeth x = Bench.rich();
      Check.write(x, TEXT, text);
      return x;
    });
    asWritten.leaves("text <" + text + ">", due, x -> x.text(TEXT));
  }

  /** "Without FAULT all of it comes ..; with one nothing." */
  private static void textsWithFaults() {
    refusedText("", -1000);
    refusedText("g0 9 0;m0 3;d0 1 9;x", -1019);
    refusedText("g0 9 0;m0 3;d0 1 9", -1018);
    refusedText("g0 9 0;m0 4;d0 1 9;g5 9 0;", -2019);
    refusedText("d0 1 9;d1 2 8;m0 3;m3 0;", -2019);
    refusedText("g0 9 0;g0 9 0;g0 9 0;g0 9 0;g0 9 0;g0 9 0;g0 9 0;g0 9 0;g0 9 0;", -2056);
  }

  private static void gearsAndMeshes() {
    for (int gear : NO_GEARS) {
      rich.leaves("gear " + gear, -1, x -> x.gear(gear, 0));
      rich.leaves("width " + gear, -1, x -> x.width(gear, 0));
    }
    for (int what : new int[] {-1, 8, LOW, HIGH}) {
      rich.leaves("gear, what " + what, -1, x -> x.gear(3, what));
    }
    for (int y : new int[] {-1, 16, LOW, HIGH}) {
      rich.leaves("width, y " + y, -1, x -> x.width(3, y));
    }
    for (int mesh : NO_MESHES) {
      rich.leaves("mesh " + mesh, -1, x -> x.mesh(mesh, 0));
    }
    for (int what : new int[] {-1, 3, LOW, HIGH}) {
      rich.leaves("mesh, what " + what, -1, x -> x.mesh(1, what));
    }
    empty.leaves("gear of none", -1, x -> x.gear(0, 0));
    empty.leaves("width of none", -1, x -> x.width(0, 0));
    empty.leaves("mesh of none", -1, x -> x.mesh(0, 0));
    full.leaves("gear 12", -1, x -> x.gear(12, 0));
    full.leaves("mesh 16", -1, x -> x.mesh(16, 0));
    full.leaves("the last gear", 4, x -> x.gear(11, 0));
    full.leaves("the last mesh", 62, x -> x.mesh(15, 2));
  }

  private static void turning() {
    for (Bench bench : new Bench[] {rich, locked, empty}) {
      for (int shaft : new int[] {-1, 8, LOW, HIGH}) {
        bench.leaves("speed " + shaft, FAR - 1, x -> x.speed(shaft, 0));
      }
      for (int part : new int[] {-1, 2, LOW, HIGH}) {
        bench.leaves("speed, part " + part, FAR - 1, x -> x.speed(0, part));
        bench.leaves("speed, part " + part, FAR - 1, x -> x.speed(7, part));
      }
    }
    for (int shaft = 0; shaft < 8; shaft++) {
      int s = shaft;
      locked.leaves("locked, speed " + s, FAR - 3, x -> x.speed(s, 0));
      locked.leaves("locked, speed " + s, FAR - 3, x -> x.speed(s, 1));
      empty.leaves("free, speed " + s, s == 0 ? 1 : FAR - 4, x -> x.speed(s, 0));
      empty.leaves("free, speed " + s, s == 0 ? 1 : FAR - 4, x -> x.speed(s, 1));
    }
    for (int gear : NO_GEARS) {
      rich.leaves("hunt " + gear, -1, x -> x.hunt(gear, 0, 0));
      rich.leaves("hunt " + gear, -1, x -> x.hunt(0, gear, 1));
    }
    for (int what : new int[] {-1, 2, LOW, HIGH}) {
      rich.leaves("hunt, what " + what, -1, x -> x.hunt(0, 1, what));
    }
    for (int gear = 0; gear < 4; gear++) {
      int g = gear;
      rich.leaves("hunt, one twice", -1, x -> x.hunt(g, g, 0));
    }
    for (int teeth : new int[] {3, 100, 0, -4, LOW, HIGH}) {
      rich.leaves("planets, sun " + teeth, -1, x -> x.planets(teeth, 60, 1));
      rich.leaves("planets, ring " + teeth, -1, x -> x.planets(20, teeth, 1));
      rich.leaves("most, sun " + teeth, -1, x -> x.most(teeth, 60));
      rich.leaves("most, ring " + teeth, -1, x -> x.most(20, teeth));
    }
    for (int n : new int[] {0, 13, -1, LOW, HIGH}) {
      rich.leaves("planets " + n, -1, x -> x.planets(20, 60, n));
      rich.leaves("planets " + n + ", that may not be", -1, x -> x.planets(60, 20, n));
    }
  }

  private static void cuts() {
    int[] wrong = {-108, -92, -1, 0, 8, 99, 117, 199, 217, 3117, 3199, 3217, 3299, 3300, 3308, LOW, HIGH};
    for (int told : wrong) {
      rich.leaves("cut, told " + told, -1, x -> x.cut(1, CUTTER, told));
      rich.leaves("cut, told " + told + " ahead of nothing", -1, x -> x.cut(1, NOTHING, told));
      rich.leaves("cut, told " + told + " ahead of a gear", -1, x -> x.cut(1, GEAR, told));
    }
    for (int gear : NO_GEARS) {
      rich.leaves("cut " + gear, -1, x -> x.cut(gear, CUTTER, 208));
      rich.leaves("cut " + gear + " ahead of nothing", -1, x -> x.cut(gear, NOTHING, 208));
      rich.leaves("cut " + gear + " ahead of shorts", -1, x -> x.cut(gear, SHORTS, 208));
      rich.leaves("cut " + gear + " ahead of no reaches", -1, x -> x.cut(gear, TEXT, 208));
    }
    for (int d : NO_SHELVES) {
      rich.leaves("cut, shelf " + d, -1, x -> x.cut(1, d, 208));
    }
    rich.leaves("cut, nothing", -11, x -> x.cut(1, NOTHING, 208));
    rich.leaves("cut, a gear", -12, x -> x.cut(1, GEAR, 208));
    rich.leaves("cut, shorts ahead of no reaches", -12, x -> x.cut(1, SHORTS, 208));
    rich.leaves("cut, ints", -12, x -> x.cut(1, INTS, 208));
    rich.leaves("cut, no reaches", -13, x -> x.cut(1, TEXT, 208));
    rowOfSixteen(1, 0, -12);
    rowOfSixteen(2, 0, -12);
    rowOfSixteen(0, 32, -13);
    rowOfSixteen(0, -1, -13);
    rowOfSixteen(0, 255, -13);
    empty.leaves("cut none", -1, x -> x.cut(0, 0, 208));
  }

  /** All calls that take a cutter, with one element of a ROW that is no REACH, or that is of another SORT. */
  private static void rowOfSixteen(int sort, int element, long due) {
    for (int i = 0; i < 16; i += 15) {
      int at = i;
      Bench asWritten = new Bench(() -> {
        GearTeeth x = Bench.rich();
        Check.due("row", x.row(CUTTER, sort, 16), 0);
        Check.due("put", x.put(CUTTER, at, element), 0);
        return x;
      });
      String what = " sort " + sort + ", " + element + " at " + at;
      asWritten.leaves("cut," + what, due, x -> x.cut(1, CUTTER, 208));
      asWritten.leaves("best shift," + what, FAR + due, x -> x.bestShift(0, CUTTER, 2));
      asWritten.leaves("read back," + what, due, x -> x.readBack(1, CUTTER, 2, -1));
    }
  }

  private static void rolling() {
    for (int mesh : NO_MESHES) {
      rich.leaves("off " + mesh, FAR - 1, x -> x.off(mesh, 0));
      rich.leaves("touch " + mesh, -1, x -> x.touch(mesh, 0));
      rich.leaves("jam " + mesh, -1, x -> x.jam(mesh));
      rich.leaves("gap " + mesh, FAR - 1, x -> x.gap(mesh));
      rich.leaves("even " + mesh, -1, x -> x.even(mesh));
      rich.leaves("room " + mesh, -1, x -> x.room(mesh, 1));
      rich.leaves("loud " + mesh, -1, x -> x.loud(mesh, 0));
      rich.leaves("whine " + mesh, -1, x -> x.whine(mesh));
    }
    for (int turn : new int[] {-1, 16, LOW, HIGH}) {
      rich.leaves("off, turn " + turn, FAR - 1, x -> x.off(1, turn));
      rich.leaves("touch, turn " + turn, -1, x -> x.touch(1, turn));
    }
    for (int room : new int[] {-1, 63, LOW, HIGH}) {
      rich.leaves("room " + room, -1, x -> x.room(1, room));
    }
    for (int k : new int[] {-1, 9, LOW, HIGH}) {
      rich.leaves("loud, tone " + k, -1, x -> x.loud(1, k));
    }
    empty.leaves("off of none", FAR - 1, x -> x.off(0, 0));
    empty.leaves("touch of none", -1, x -> x.touch(0, 0));
    empty.leaves("jam of none", -1, x -> x.jam(0));
    empty.leaves("gap of none", FAR - 1, x -> x.gap(0));
    empty.leaves("even of none", -1, x -> x.even(0));
    empty.leaves("room of none", -1, x -> x.room(0, 1));
    empty.leaves("loud of none", -1, x -> x.loud(0, 0));
    empty.leaves("whine of none", -1, x -> x.whine(0));
  }

  private static void wear() {
    for (int mesh : NO_MESHES) {
      rich.leaves("wear " + mesh, -1, x -> x.wear(mesh, 999, 1));
      rich.leaves("until " + mesh, -1, x -> x.until(mesh, 999, 1));
    }
    for (int load : new int[] {0, 1000, -1, LOW, HIGH}) {
      rich.leaves("wear, load " + load, -1, x -> x.wear(0, load, 1));
      rich.leaves("until, load " + load, -1, x -> x.until(0, load, 1));
    }
    for (int n : new int[] {0, 101, -1, LOW, HIGH}) {
      rich.leaves("wear, rounds " + n, -1, x -> x.wear(0, 999, n));
    }
    for (int mark : new int[] {0, 63, -1, LOW, HIGH}) {
      rich.leaves("until, mark " + mark, -1, x -> x.until(0, 999, mark));
    }
    empty.leaves("wear of none", -1, x -> x.wear(0, 999, 1));
    empty.leaves("until of none", -1, x -> x.until(0, 999, 1));
  }

  private static void loads() {
    for (Bench bench : new Bench[] {rich, full, empty}) {
      for (int gap : new int[] {-1, 100, LOW, HIGH}) {
        bench.leaves("pair, gap " + gap, -1, x -> x.pair(gap, 1));
      }
      for (int stiff : new int[] {0, 100, -1, LOW, HIGH}) {
        bench.leaves("pair, stiff " + stiff, -1, x -> x.pair(0, stiff));
      }
      for (int load : new int[] {-1, 10000, LOW, HIGH}) {
        bench.leaves("pushed " + load, -1, x -> x.pushed(load));
        bench.leaves("share " + load, -1, x -> x.share(0, load));
        bench.leaves("bearing " + load, -1, x -> x.bearing(load));
      }
    }
    for (int pair : new int[] {-1, 3, LOW, HIGH}) {
      rich.leaves("share, pair " + pair, -1, x -> x.share(pair, 0));
    }
    full.leaves("a seventh", -2, x -> x.pair(0, 1));
    full.leaves("a seventh", -2, x -> x.pair(99, 99));
    full.leaves("share of a seventh", -1, x -> x.share(6, 1));
    full.leaves("share of the sixth", 0, x -> x.share(5, 1));
    empty.leaves("nothing pushes back", -4, x -> x.pushed(1));
    empty.leaves("share of none", -1, x -> x.share(0, 1));
    empty.leaves("nothing bears", -3, x -> x.bearing(1));
    empty.leaves("clear of none", 0, GearTeeth::clear);
    Bench weak = new Bench(() -> {
      GearTeeth x = Bench.rich();
      x.clear();
      x.pair(99, 1);
      return x;
    });
    weak.leaves("pushed too far", -4, x -> x.pushed(9901));
    weak.leaves("share, pushed too far", -3, x -> x.share(0, 9901));
    weak.leaves("share, no such pair goes ahead", -1, x -> x.share(1, 9901));
    weak.leaves("bearing, pushed too far", -3, x -> x.bearing(9901));
  }

  private static void rules() {
    for (int d : NO_SHELVES) {
      rich.leaves("fault " + d, -1, x -> x.fault(d));
      rich.leaves("rule " + d, -1, x -> x.rule(d));
      full.leaves("rule " + d + " goes ahead of no room", -1, x -> x.rule(d));
    }
    int[] held = {NOTHING, GEAR, SHORTS, INTS};
    for (int d : held) {
      long due = d == NOTHING ? -11 : -12;
      rich.leaves("fault, shelf " + d, due, x -> x.fault(d));
      rich.leaves("rule, shelf " + d, due, x -> x.rule(d));
    }
    rich.leaves("fault of a text", 1, x -> x.fault(TEXT));
    rich.leaves("rule of a text", -101, x -> x.rule(TEXT));
    rich.leaves("no fault", -4, x -> x.fault(RULE));
    full.leaves("no room", -2, x -> x.rule(7));
    full.leaves("no room goes ahead of nothing", -2, x -> x.rule(6));
    Bench others = new Bench(() -> {
      GearTeeth x = Bench.full();
      x.keep(0, 1, 0);
      Check.fill(x, 1, 2, '1', '=', '1');
      Check.write(x, 2, "1=");
      return x;
    });
    others.leaves("no room goes ahead of a gear", -2, x -> x.rule(0));
    others.leaves("no room goes ahead of ints", -2, x -> x.rule(1));
    others.leaves("no room goes ahead of a fault", -2, x -> x.rule(2));
    others.leaves("the fault is told", 2, x -> x.fault(2));
  }

  private static void watching() {
    for (int rule : new int[] {-1, 3, LOW, HIGH}) {
      rich.leaves("holds " + rule, -1, x -> x.holds(rule, 0));
      rich.leaves("watch " + rule, -1, x -> x.watch(rule, 0, 300));
    }
    for (int mesh : NO_MESHES) {
      rich.leaves("holds for " + mesh, -1, x -> x.holds(0, mesh));
      rich.leaves("watch for " + mesh, -1, x -> x.watch(0, mesh, 300));
    }
    for (int load : new int[] {0, 1000, -1, LOW, HIGH}) {
      rich.leaves("watch, load " + load, -1, x -> x.watch(0, 0, load));
    }
    full.leaves("rule 12", -1, x -> x.holds(12, 0));
    full.leaves("rule 12", -1, x -> x.watch(12, 0, 1));
    full.leaves("rule 11", 1, x -> x.holds(11, 15));
    full.leaves("rule 11", 0, x -> x.watch(11, 15, 999));
  }

  private static void ears() {
    for (int d : NO_SHELVES) {
      rich.leaves("ear " + d, -1, x -> x.ear(d, 0));
    }
    for (int what : new int[] {-1, 3, LOW, HIGH}) {
      for (int d = 0; d < 8; d++) {
        int shelf = d;
        rich.leaves("ear " + d + ", what " + what, -1, x -> x.ear(shelf, what));
      }
    }
    for (int what = 0; what < 3; what++) {
      int w = what;
      rich.leaves("ear, nothing", -11, x -> x.ear(NOTHING, w));
      rich.leaves("ear, a gear", -12, x -> x.ear(GEAR, w));
      rich.leaves("ear, shorts ahead of their elements", -12, x -> x.ear(SHORTS, w));
      rich.leaves("ear, ints", -12, x -> x.ear(INTS, w));
      rich.leaves("ear, others than 0 and 1", -13, x -> x.ear(CUTTER, w));
    }
    earRow(2, 0, -13);
    earRow(-1, 0, -13);
    earRow(2, 59, -13);
    Bench longOnes = new Bench(() -> {
      GearTeeth x = Check.plant("g0 9 0;");
      x.row(3, 0, 61);
      x.row(4, 1, 61);
      x.row(5, 0, 120);
      return x;
    });
    longOnes.leaves("ear, 61", -13, x -> x.ear(3, 0));
    longOnes.leaves("ear, 61 shorts", -12, x -> x.ear(4, 1));
    longOnes.leaves("ear, 120", -13, x -> x.ear(5, 2));
  }

  private static void earRow(int element, int place, long due) {
    Bench asWritten = new Bench(() -> {
      GearTeeth x = Check.plant("g0 9 0;");
      x.row(3, 0, 60);
      x.put(3, place, element);
      return x;
    });
    for (int what = 0; what < 3; what++) {
      int w = what;
      asWritten.leaves("ear, " + element + " at " + place, due, x -> x.ear(3, w));
    }
  }

  private static void shifts() {
    for (int mesh : NO_MESHES) {
      rich.leaves("best shift " + mesh, FAR - 1, x -> x.bestShift(mesh, CUTTER, 2));
      rich.leaves("best shift " + mesh + " ahead of nothing", FAR - 1, x -> x.bestShift(mesh, NOTHING, 2));
    }
    for (int gear : NO_GEARS) {
      rich.leaves("read back " + gear, -1, x -> x.readBack(gear, CUTTER, 2, -1));
      rich.leaves("read back " + gear + " ahead of nothing", -1, x -> x.readBack(gear, NOTHING, 2, -1));
    }
    for (int d : NO_SHELVES) {
      rich.leaves("best shift, shelf " + d, FAR - 1, x -> x.bestShift(0, d, 2));
      rich.leaves("read back, shelf " + d, -1, x -> x.readBack(0, d, 2, -1));
    }
    for (int n : new int[] {0, 33, -1, LOW, HIGH}) {
      rich.leaves("best shift, steps " + n, FAR - 1, x -> x.bestShift(0, CUTTER, n));
      rich.leaves("best shift, steps " + n + " ahead of nothing", FAR - 1, x -> x.bestShift(0, NOTHING, n));
      rich.leaves("read back, steps " + n, -1, x -> x.readBack(0, CUTTER, n, -1));
      rich.leaves("read back, steps " + n + " ahead of a gear", -1, x -> x.readBack(0, GEAR, n, -1));
    }
    for (int i : new int[] {-2, LOW}) {
      rich.leaves("read back, the " + i, -1, x -> x.readBack(0, CUTTER, 2, i));
      rich.leaves("read back, the " + i + " ahead of nothing", -1, x -> x.readBack(0, NOTHING, 2, i));
      rich.leaves("read back, the " + i + " ahead of a gear", -1, x -> x.readBack(0, GEAR, 2, i));
      rich.leaves("read back, the " + i + " ahead of no reaches", -1, x -> x.readBack(0, TEXT, 2, i));
    }
    int[] shelves = {NOTHING, GEAR, SHORTS, INTS, TEXT, HEARD};
    int[] dues = {-11, -12, -12, -12, -13, -13};
    for (int k = 0; k < shelves.length; k++) {
      int d = shelves[k];
      rich.leaves("best shift, shelf " + d, FAR + dues[k], x -> x.bestShift(0, d, 2));
      rich.leaves("read back, shelf " + d, dues[k], x -> x.readBack(0, d, 2, -1));
      rich.leaves("read back, shelf " + d, dues[k], x -> x.readBack(0, d, 2, 0));
    }
    rich.leaves("read back, not so many", -4, x -> x.readBack(0, CUTTER, 2, 1));
    rich.leaves("read back, not so many", -4, x -> x.readBack(0, CUTTER, 2, HIGH));
    empty.leaves("best shift of none", FAR - 1, x -> x.bestShift(0, 0, 2));
    empty.leaves("read back of none", -1, x -> x.readBack(0, 0, 2, -1));
  }

  private static void imagesAndCounts() {
    empty.leaves("no image", -3, GearTeeth::restore);
    full.leaves("no image", -3, GearTeeth::restore);
    for (int what : new int[] {-1, 7, LOW, HIGH}) {
      rich.leaves("count " + what, -1, x -> x.count(what));
    }
  }

  private static void keepsAndRows() {
    for (int d : NO_SHELVES) {
      rich.leaves("keep " + d + ", nothing", -1, x -> x.keep(d, 0, 0));
      rich.leaves("keep " + d + ", a gear", -1, x -> x.keep(d, 1, 0));
      rich.leaves("row " + d, -1, x -> x.row(d, 0, 0));
      rich.leaves("row " + d + " ahead of a size", -1, x -> x.row(d, 0, -1));
    }
    for (int gear : NO_GEARS) {
      for (int d = 0; d < 5; d++) {
        int shelf = d;
        rich.leaves("keep, gear " + gear, -1, x -> x.keep(shelf, 1, gear));
      }
    }
    for (int what : new int[] {-1, 2, LOW, HIGH}) {
      rich.leaves("keep, what " + what, -1, x -> x.keep(2, what, 0));
    }
    for (int sort : new int[] {-1, 3, LOW, HIGH}) {
      rich.leaves("row, sort " + sort, -1, x -> x.row(2, sort, 0));
      rich.leaves("row, sort " + sort + " ahead of a size", -1, x -> x.row(2, sort, -1));
    }
    for (int sort = 0; sort < 3; sort++) {
      int s = sort;
      for (int d = 0; d < 4; d++) {
        int shelf = d;
        rich.leaves("row of 121", -1, x -> x.row(shelf, s, 121));
        rich.leaves("row of many", -1, x -> x.row(shelf, s, HIGH));
        rich.leaves("row of -1", -14, x -> x.row(shelf, s, -1));
        rich.leaves("row of few", -14, x -> x.row(shelf, s, LOW));
      }
    }
    empty.leaves("keep none", -1, x -> x.keep(0, 1, 0));
    full.leaves("keep gear 12", -1, x -> x.keep(0, 1, 12));
  }

  private static void puts() {
    for (int d : NO_SHELVES) {
      rich.leaves("put " + d, -1, x -> x.put(d, 0, 1));
      rich.leaves("put " + d, -1, x -> x.put(d, -1, 1));
    }
    rich.leaves("put, nothing", -11, x -> x.put(NOTHING, 0, 1));
    rich.leaves("put, nothing ahead of no place", -11, x -> x.put(NOTHING, -1, 1));
    rich.leaves("put, a gear", -12, x -> x.put(GEAR, 0, 1));
    rich.leaves("put, a gear ahead of no place", -12, x -> x.put(GEAR, 16, 1));
    int[] sizes = {16, 3, 3};
    for (int d = CUTTER; d <= INTS; d++) {
      int shelf = d;
      for (int i : new int[] {-1, sizes[d - CUTTER], 120, LOW, HIGH}) {
        rich.leaves("put " + d + " at " + i, -13, x -> x.put(shelf, i, 1));
      }
    }
    Bench none = new Bench(() -> {
      GearTeeth x = new GearTeeth();
      x.row(0, 0, 0);
      return x;
    });
    none.leaves("put, no place at all", -13, x -> x.put(0, 0, 1));
  }

  private static void elements() {
    for (int d : NO_SHELVES) {
      rich.leaves("element " + d, 1, x -> Bench.thrown(x, d, 0));
      rich.leaves("element " + d, 1, x -> Bench.thrown(x, d, -1));
    }
    rich.leaves("element, nothing", 2, x -> Bench.thrown(x, NOTHING, 0));
    rich.leaves("element, a gear", 2, x -> Bench.thrown(x, GEAR, 0));
    int[] sizes = {16, 3, 3};
    for (int d = CUTTER; d <= INTS; d++) {
      int shelf = d;
      int size = sizes[d - CUTTER];
      for (int i : new int[] {-1, size, 120, LOW, HIGH}) {
        rich.leaves("element " + d + " at " + i, 2, x -> Bench.thrown(x, shelf, i));
      }
      rich.leaves("the first element", 0, x -> Bench.thrown(x, shelf, 0));
      rich.leaves("the last element", 0, x -> Bench.thrown(x, shelf, size - 1));
    }
  }

  private static void copies() {
    for (int d : NO_SHELVES) {
      for (int e = 0; e < 3; e++) {
        int other = e;
        rich.leaves("copy from " + d, -1, x -> x.copy(d, 0, other, 0, 1));
        rich.leaves("copy to " + d, -1, x -> x.copy(other, 0, d, 0, 1));
      }
      rich.leaves("copy from and to " + d, -1, x -> x.copy(d, 0, d, 0, 0));
    }
    for (int d = 0; d < 8; d++) {
      int other = d;
      rich.leaves("copy from nothing to " + d, -11, x -> x.copy(NOTHING, 0, other, 0, 1));
      rich.leaves("copy from " + d + " to nothing", -11, x -> x.copy(other, 0, NOTHING, 0, 1));
      rich.leaves("copy from nothing, no place", -11, x -> x.copy(NOTHING, -1, other, 99, -1));
      if (d != NOTHING) {
        rich.leaves("copy from a gear to " + d, -12, x -> x.copy(GEAR, 0, other, 0, 1));
        rich.leaves("copy from " + d + " to a gear", -12, x -> x.copy(other, 0, GEAR, 0, 1));
        rich.leaves("copy to a gear, no place", -12, x -> x.copy(other, -1, GEAR, 99, -1));
      }
    }
    int[][] sorts = {{CUTTER, SHORTS}, {CUTTER, INTS}, {SHORTS, INTS}};
    for (int[] two : sorts) {
      rich.leaves("copy, other sorts", -12, x -> x.copy(two[0], 0, two[1], 0, 1));
      rich.leaves("copy, other sorts", -12, x -> x.copy(two[1], 0, two[0], 0, 0));
      rich.leaves("copy, other sorts ahead of no place", -12, x -> x.copy(two[0], -1, two[1], 9, 9));
    }
    int[][] noPlaces = {{-1, 0, 1}, {0, -1, 1}, {16, 0, 1}, {0, 4, 1}, {0, 0, 5}, {13, 0, 4}, {0, 1, 4}, {0, 0, -1},
        {17, 0, 0}, {0, 5, 0}, {-1, 0, 0}, {0, -1, 0}, {HIGH, 0, 1}, {0, HIGH, 1}, {0, 0, HIGH}, {1, 1, HIGH},
        {LOW, 0, 1}, {0, LOW, 1}, {0, 0, LOW}, {16, 4, -1}, {HIGH, HIGH, HIGH}, {LOW, LOW, LOW}};
    for (int[] n : noPlaces) {
      String what = "copy, no place " + n[0] + " " + n[1] + " " + n[2];
      rich.leaves(what, -13, x -> x.copy(CUTTER, n[0], HEARD, n[1], n[2]));
    }
    rich.leaves("copy, no place in itself", -13, x -> x.copy(SHORTS, 1, SHORTS, 0, 3));
    rich.leaves("copy none of them", 0, x -> x.copy(CUTTER, 16, HEARD, 4, 0));
  }

  private static void weightsAndTosses() {
    for (int d : NO_SHELVES) {
      rich.leaves("weight " + d, -1, x -> x.weight(d));
      rich.leaves("toss " + d, -1, x -> x.toss(d));
    }
    rich.leaves("weight, nothing", -11, x -> x.weight(NOTHING));
    rich.leaves("toss, nothing", -11, x -> x.toss(NOTHING));
    for (int d = CUTTER; d <= HEARD; d++) {
      int shelf = d;
      rich.leaves("weight, a row", -12, x -> x.weight(shelf));
      rich.leaves("toss, a row", -12, x -> x.toss(shelf));
    }
    Bench without = new Bench(() -> {
      GearTeeth x = Check.plant("g4 9 0;g3 9 0;");
      x.keep(0, 1, 0);
      x.keep(1, 1, 1);
      return x;
    });
    without.leaves("toss, a ring", -15, x -> x.toss(0));
    without.leaves("toss, a planet", -15, x -> x.toss(1));
  }

  /** "nothing changes": what only tells, with answers that go far. */
  private static void whatOnlyTells() {
    rich.leaves("until", -4, x -> x.until(0, 999, 62));
    rich.leaves("until", 2, x -> x.until(0, 999, 1));
    rich.leaves("watch, to the end", -4, x -> {
      Check.write(x, RULE, "g<60");
      return x.watch(1, 0, 9) == 3 ? x.watch(0, 0, 999) : 99;
    });
    rich.leaves("holds", 1, x -> x.holds(2, 1));
    rich.leaves("best shift", 1, x -> x.bestShift(0, CUTTER, 16) > -9 ? 1 : 0);
    rich.leaves("best shift of another", 1, x -> x.bestShift(1, CUTTER, 3) >= -4000 ? 1 : 0);
    rich.leaves("read back, how many", 1, x -> x.readBack(0, CUTTER, 2, -1));
    rich.leaves("read back, which", 8, x -> x.readBack(0, CUTTER, 2, 0));
    rich.leaves("ear", 1, x -> x.ear(HEARD, 0) > 0 ? 1 : 0);
    rich.leaves("locked", 0, GearTeeth::locked);
    rich.leaves("hunt", 13, x -> x.hunt(0, 1, 0));
    rich.leaves("toss", 2, x -> x.toss(GEAR));
    rich.leaves("weight", 1, x -> x.weight(GEAR) > 0 ? 1 : 0);
    for (int turn = 0; turn < 16; turn += 15) {
      int t = turn;
      rich.leaves("off", 1, x -> x.off(1, t) > FAR ? 1 : 0);
      rich.leaves("touch", 1, x -> x.touch(1, t) >= 0 ? 1 : 0);
    }
    rich.leaves("loud", 1, x -> x.loud(1, 8) >= 0 ? 1 : 0);
    rich.leaves("pushed", 307, x -> x.pushed(9999));
    rich.leaves("room as it was", 40, x -> x.room(1, 40));
    rich.leaves("keep nothing where nothing is", 0, x -> x.keep(NOTHING, 0, HIGH));
  }

  /** What `leaves` looks at does see what each call can change. */
  private static void whatChanges() {
    rich.changes("text", x -> x.text(TEXT));
    rich.changes("cut", x -> x.cut(2, CUTTER, 3208));
    rich.changes("room", x -> x.room(1, 41));
    rich.changes("wear", x -> x.wear(1, 999, 1));
    rich.changes("pair", x -> x.pair(0, 1));
    rich.changes("clear", GearTeeth::clear);
    rich.changes("rule", x -> x.rule(RULE));
    rich.changes("image", GearTeeth::image);
    rich.changes("restore", GearTeeth::restore);
    rich.changes("keep nothing", x -> x.keep(GEAR, 0, 0));
    rich.changes("keep a gear", x -> x.keep(NOTHING, 1, 0));
    rich.changes("keep another", x -> x.keep(GEAR, 1, 1));
    rich.changes("row", x -> x.row(NOTHING, 0, 0));
    rich.changes("row anew", x -> x.row(SHORTS, 1, 3));
    rich.changes("row of another sort", x -> {
      Check.fill(x, SHORTS, 2, 7, -8, 9);
      return 0;
    });
    rich.changes("put", x -> x.put(INTS, 2, -5));
    rich.changes("copy", x -> x.copy(INTS, 0, INTS, 1, 1));
  }
}
