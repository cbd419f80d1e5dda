import java.util.Arrays;

/** Term 5, promises 31 to 33: what an EAR HEARD, BEST SHIFT and READ BACK, by their first and last values. */
public final class EarBoundaryTests {
  private static final int[] NO_REACH = new int[16];

  public static void main(String[] args) {
    noGears();
    phases();
    lastTicks();
    silentFaults();
    elements();
    unlikeGears();
    twoAtMost();
    firstAndLastGear();
    blamedAndMaybe();
    mostSets();
    bestShiftAtTheEdges();
    nearestThenGreater();
    bestByTheWords();
    bestIsOfA();
    readBackAll();
    readBackAtTheEnds();
    readBackOfEachWidth();
    Check.end();
  }

  private static void due(String call, long got, long want) {
    Check.due(call, got, want);
  }

  /** So many TICKS, something HEARD at those that are told. */
  private static int[] ticks(int n, int... heard) {
    int[] row = new int[n];
    for (int tick : heard) {
      row[tick] = 1;
    }
    return row;
  }

  private static void heard(GearTeeth x, int[] row, int sets, int blamed, int maybe) {
    Check.fill(x, 1, 0, row);
    String what = Arrays.toString(row);
    due("sets " + what, x.ear(1, 0), sets);
    due("blamed " + what, x.ear(1, 1), blamed);
    due("maybe " + what, x.ear(1, 2), maybe);
  }

  private static GearTeeth gears(int... teeth) {
    GearTeeth x = new GearTeeth();
    for (int i = 0; i < teeth.length; i++) {
      due("gear", Check.say(x, "g0 " + teeth[i] + " 0;"), 1);
    }
    return x;
  }

  private static void noGears() {
    GearTeeth x = new GearTeeth();
    heard(x, ticks(0), 1, 0, 0);
    heard(x, ticks(1), 1, 0, 0);
    heard(x, ticks(60), 1, 0, 0);
    heard(x, ticks(1, 0), 0, 0, 0);
    heard(x, ticks(60, 59), 0, 0, 0);
  }

  /** "at each TICK that is its PHASE (0 .. TEETH - 1) modulo TEETH". */
  private static void phases() {
    for (int teeth : new int[] {4, 5, 7, 29, 30}) {
      GearTeeth x = gears(teeth);
      for (int phase = 0; phase < teeth; phase += Math.max(1, teeth - 1)) {
        int[] row = new int[60];
        for (int t = phase; t < 60; t += teeth) {
          row[t] = 1;
        }
        heard(x, row, 1, 1, 1);
        row[phase] = 0;
        heard(x, row, 0, 0, 0);
      }
    }
    heard(gears(31), ticks(60, 29), 1, 1, 1);
    heard(gears(31), ticks(60, 30), 1, 1, 1);
    GearTeeth x = gears(4);
    heard(x, ticks(4, 0), 1, 1, 1);
    heard(x, ticks(4, 3), 1, 1, 1);
    heard(x, ticks(5, 0), 0, 0, 0);
    heard(x, ticks(5, 4), 0, 0, 0);
    heard(x, ticks(5, 0, 4), 1, 1, 1);
    heard(x, ticks(8, 3, 7), 1, 1, 1);
    heard(x, ticks(8, 3), 0, 0, 0);
    heard(x, ticks(8, 7), 0, 0, 0);
    heard(x, ticks(9, 0, 4, 8), 1, 1, 1);
    heard(x, ticks(9, 0, 4), 0, 0, 0);
  }

  /** TICK 59 is the last; TICKS 31 and 32 are where the bits of an int end. */
  private static void lastTicks() {
    for (int tick : new int[] {0, 30, 31, 32, 33, 58, 59}) {
      heard(gears(60), ticks(60, tick), 1, 1, 1);
      GearTeeth x = gears(99);
      heard(x, ticks(60, tick), 1, 1, 1);
      heard(x, ticks(tick + 1, tick), 1, 1, 1);
    }
    heard(gears(59), ticks(60, 59), 0, 0, 0);
    heard(gears(59), ticks(60, 0, 59), 1, 1, 1);
    heard(gears(59), ticks(60, 0), 0, 0, 0);
    heard(gears(30), ticks(60, 29, 59), 1, 1, 1);
    heard(gears(30), ticks(60, 0, 30), 1, 1, 1);
    heard(gears(99), ticks(60, 0, 59), 0, 0, 0);
    heard(gears(99, 98), ticks(60, 0, 59), 2, 3, 3);
  }

  /** A FAULT whose PHASE is behind the last TICK is a FAULT too, that sounds nowhere. */
  private static void silentFaults() {
    int[][] told = {{4, 0, 5}, {4, 1, 4}, {4, 3, 2}, {4, 4, 1}, {4, 5, 1}, {60, 59, 2}, {60, 60, 1}, {61, 60, 2},
        {99, 60, 40}, {99, 0, 100}, {59, 60, 1}};
    for (int[] t : told) {
      heard(gears(t[0]), ticks(t[1]), t[2], 0, t[2] > 1 ? 1 : 0);
    }
    heard(gears(61, 62), ticks(60), 6, 0, 3);
    heard(gears(60, 61), ticks(60), 2, 0, 2);
    heard(gears(60, 61), ticks(60, 7), 4, 0, 3);
    heard(gears(60, 60), ticks(60, 7), 3, 0, 3);
    heard(gears(5, 61), ticks(60, 2, 7, 12, 17, 22, 27, 32, 37, 42, 47, 52, 57), 14, 1, 3);
  }

  /** "1 where it HEARD something, else 0", "above 60 of them"; the lowest bits of what is put in. */
  private static void elements() {
    GearTeeth x = gears(60);
    int[][] told = {{0, 1}, {1, 1}, {256, 1}, {257, 1}, {-255, 1}, {2, -13}, {-1, -13}, {127, -13}, {128, -13},
        {255, -13}, {258, -13}};
    for (int[] t : told) {
      for (int place = 0; place < 60; place += 59) {
        x.row(1, 0, 60);
        x.put(1, place, t[0]);
        due("element " + t[0] + " at " + place, x.ear(1, 0), t[1]);
        due("maybe, " + t[0] + " at " + place, x.ear(1, 2), t[1] < 0 ? t[1] : t[0] % 2 == 0 ? 0 : 1);
      }
    }
    for (int size : new int[] {0, 1, 59, 60, 61, 62, 120}) {
      x.row(1, 0, size);
      due(size + " ticks", x.ear(1, 0), size > 60 ? -13 : 61 - size);
      due(size + " ticks, blamed", x.ear(1, 1), size > 60 ? -13 : 0);
      due(size + " ticks, maybe", x.ear(1, 2), size > 60 ? -13 : size < 60 ? 1 : 0);
    }
  }

  /** "FAULTS of unlike GEARS": not two of one, but of two that are alike in all else. */
  private static void unlikeGears() {
    heard(gears(4), ticks(4, 0, 1), 0, 0, 0);
    heard(gears(4, 4), ticks(4, 0, 1), 2, 3, 3);
    heard(gears(4, 4), ticks(4, 0, 3), 2, 3, 3);
    heard(gears(4, 4), ticks(4, 2), 3, 0, 3);
    heard(gears(4, 4), ticks(4), 1, 0, 0);
    heard(gears(4, 5), ticks(20, 0, 4, 5, 8, 10, 12, 15, 16), 1, 3, 3);
    heard(gears(4, 5), ticks(20, 0, 4, 8, 12, 16), 1, 1, 1);
    heard(gears(4, 5), ticks(20, 0, 5, 10, 15), 1, 2, 2);
    heard(gears(4, 8), ticks(16, 0, 4, 8, 12), 3, 1, 3);
    heard(gears(4, 8), ticks(16, 0, 8), 1, 2, 2);
    heard(gears(8, 4), ticks(16, 0, 4, 8, 12), 3, 2, 3);
    heard(gears(8, 8), ticks(16, 0, 4, 8, 12), 2, 3, 3);
    heard(gears(8, 8, 4), ticks(16, 0, 4, 8, 12), 7, 0, 7);
  }

  /** "none, one or two FAULTS". */
  private static void twoAtMost() {
    heard(gears(4, 4, 4), ticks(4), 1, 0, 0);
    heard(gears(4, 4, 4), ticks(4, 0), 6, 0, 7);
    heard(gears(4, 4, 4), ticks(4, 0, 1), 6, 0, 7);
    heard(gears(4, 4, 4), ticks(4, 0, 1, 2), 0, 0, 0);
    heard(gears(4, 4, 4, 4), ticks(4, 0, 1, 2, 3), 0, 0, 0);
    heard(gears(60, 61, 62), ticks(60, 0, 30, 59), 0, 0, 0);
  }

  /** "GEARS (bits)": GEAR 0 is 1, GEAR 11 is 2048. */
  private static void firstAndLastGear() {
    for (int odd = 0; odd < 12; odd++) {
      int[] teeth = new int[12];
      Arrays.fill(teeth, 4);
      teeth[odd] = 5;
      heard(gears(teeth), ticks(10, 2, 7), 1, 1 << odd, 1 << odd);
    }
    int[] teeth = new int[12];
    Arrays.fill(teeth, 60);
    GearTeeth x = gears(teeth);
    heard(x, ticks(60, 59), 12 + 66, 0, 4095);
    heard(x, ticks(60, 0, 59), 132, 0, 4095);
    heard(x, ticks(60), 1, 0, 0);
    teeth[0] = 5;
    teeth[11] = 7;
    x = gears(teeth);
    heard(x, ticks(15, 0, 5, 7, 10, 14), 1, 2049, 2049);
  }

  /** "GEARS of which each SET that FITS has a FAULT (none FITS: 0)", "of which some has". */
  private static void blamedAndMaybe() {
    heard(gears(4, 60, 61), ticks(60, 2), 4, 0, 6);
    heard(gears(4, 60, 61), ticks(3, 2), 3 + 59 + 60 + 116, 0, 7);
    heard(gears(30, 60), ticks(60, 0, 30), 3, 1, 3);
    heard(gears(30, 60), ticks(60, 0, 30, 45), 1, 3, 3);
    heard(gears(30, 60, 60), ticks(60, 0, 30), 7, 0, 7);
    heard(gears(30, 60, 60), ticks(60, 0, 30, 45), 2, 1, 7);
    heard(gears(30, 60, 60), ticks(60, 0, 29), 2, 6, 6);
    heard(gears(30, 60, 60), ticks(60, 1, 2, 3), 0, 0, 0);
  }

  /** 12 GEARS of 99 TEETH that nobody hears. */
  private static void mostSets() {
    int[] teeth = new int[12];
    Arrays.fill(teeth, 99);
    GearTeeth x = gears(teeth);
    heard(x, ticks(0), 1 + 12 * 99 + 66 * 99 * 99, 0, 4095);
    heard(x, ticks(60), 1 + 12 * 39 + 66 * 39 * 39, 0, 4095);
    heard(x, ticks(60, 59), 12 + 66 * (2 * 39 + 1), 0, 4095);
  }

  private static GearTeeth two() {
    return Check.plant("g0 9 0;g0 9 1;m0 1;");
  }

  /** "it doesn't JAM" with OFF 0; SHIFTS to 8 and to -8; "-4000 none". */
  private static void bestShiftAtTheEdges() {
    GearTeeth x = two();
    Check.fill(x, 1, 0, NO_REACH);
    int[][] rooms = {{62, 0}, {61, 1}, {60, 2}, {55, 7}, {54, 8}, {53, -4000}, {0, -4000}};
    for (int[] room : rooms) {
      x.room(0, room[0]);
      due("room " + room[0], x.bestShift(0, 1, 2), room[1]);
      due("room " + room[0] + ", one step", x.bestShift(0, 1, 1), room[0] == 62 ? 0 : -4000);
      due("room " + room[0] + ", 32 steps", x.bestShift(0, 1, 32), room[1]);
    }
    Check.fill(x, 1, 0, 31, 31, 31, 31, 31, 31, 31, 31, 31, 31, 31, 31, 31, 31, 31, 31);
    int[][] deep = {{62, 0}, {31, 0}, {30, -4000}};
    for (int[] room : deep) {
      x.room(0, room[0]);
      due("all reach, room " + room[0], x.bestShift(0, 1, 32), room[1]);
    }
    due("steps 0", x.bestShift(0, 1, 0), Bench.FAR - 1);
    due("steps 33", x.bestShift(0, 1, 33), Bench.FAR - 1);
    due("mesh 1", x.bestShift(1, 1, 1), Bench.FAR - 1);
  }

  /** "of several the one nearest to 0, then the greater". */
  private static void nearestThenGreater() {
    int[] a = {20, 27, 28, 21, 22, 18, 22, 10, 9, 1, 8, 20, 2, 11, 6, 28};
    int[] b = {8, 25, 2, 26, 17, 16, 19, 0, 27, 14, 20, 12, 20, 19, 11, 7};
    GearTeeth x = two();
    Check.fill(x, 1, 0, b);
    x.cut(1, 1, 208);
    Check.fill(x, 1, 0, a);
    due("8 is as good as -8", x.bestShift(0, 1, 4), 8);
    x.room(0, 0);
    due("all jam", x.bestShift(0, 1, 4), -4000);
    GearTeeth flat = two();
    for (int reach = 0; reach <= 31; reach += 31) {
      int[] reaches = new int[16];
      Arrays.fill(reaches, reach);
      Check.fill(flat, 1, 0, reaches);
      due("all are as good", flat.bestShift(0, 1, 7), 0);
    }
  }

  /** What `cut`, `jam` and `even` tell of each SHIFT, one by one, on an object of its own. */
  private static void bestByTheWords() {
    int[][] cutters = {Bench.CUTTER, NO_REACH, {0, 25, 0, 0, 10, 0, 0, 0, 31, 0, 0, 0, 31, 0, 0, 0},
        {3, 1, 1, 1, 0, 1, 3, 20, 1, 1, 2, 3, 3, 2, 20, 1},
        {20, 27, 28, 21, 22, 18, 22, 10, 9, 1, 8, 20, 2, 11, 6, 28}};
    int[] steps = {1, 2, 3, 5, 16, 32};
    for (int i = 0; i < cutters.length * steps.length * 3; i++) {
      GearTeeth x = two();
      int n = steps[i / 3 % steps.length];
      Check.fill(x, 1, 0, cutters[(i / 3 + 1) % cutters.length]);
      x.cut(1, 1, 508);
      Check.fill(x, 1, 0, cutters[i / 3 / steps.length]);
      x.room(0, 62 - i % 3 * 9);
      long best = x.bestShift(0, 1, n);
      long due = -4000;
      int least = 99;
      for (int far = 0; far <= 8; far++) {
        for (int shift = far; shift >= -far; shift -= Math.max(1, 2 * far)) {
          x.cut(0, 1, 100 * n + shift + 8);
          if (x.jam(0) == -4 && x.even(0) < least) {
            least = x.even(0);
            due = shift;
          }
        }
      }
      due("best shift " + i, best, due);
    }
  }

  /** "BEST SHIFT of a cutter for a of a MESH": b stays as it is. */
  private static void bestIsOfA() {
    GearTeeth x = Check.plant("g0 9 0;g0 9 1;g0 9 2;m0 1;m2 0;d0 1 61;d0 2 60;");
    Check.fill(x, 1, 0, NO_REACH);
    due("gear 0 is a", x.bestShift(0, 1, 2), 1);
    due("gear 2 is a", x.bestShift(1, 1, 2), 2);
    x.cut(1, 1, 209);
    due("b is thinner", x.bestShift(0, 1, 2), 0);
    due("the other isn't", x.bestShift(1, 1, 2), 2);
    x.cut(0, 1, 216);
    due("what a was doesn't matter", x.bestShift(0, 1, 2), 0);
    due("as b of the other it does", x.bestShift(1, 1, 2), 0);
    due("a is as it was", x.gear(0, 5), 23);
  }

  private static void fits(GearTeeth x, int n, int first, int many) {
    due("how many, " + n, x.readBack(0, 1, n, -1), many);
    for (int i = 0; i < many; i++) {
      due("the " + i + "-th, " + n, x.readBack(0, 1, n, i), first + i);
    }
    due("not so many, " + n, x.readBack(0, 1, n, many), -4);
    due("not so many, " + n, x.readBack(0, 1, n, Bench.HIGH), -4);
    due("below -1, " + n, x.readBack(0, 1, n, -2), -1);
  }

  /** "SHIFTS .. that would make the FLANK of a GEAR as it is: how many, the i-th from -8 on", told "and 8". */
  private static void readBackAll() {
    GearTeeth x = two();
    Check.fill(x, 1, 0, NO_REACH);
    fits(x, 1, 0, 17);
    fits(x, 2, 0, 9);
    fits(x, 32, 0, 9);
    x.cut(0, 1, 216);
    fits(x, 1, 0, 0);
    fits(x, 2, 16, 1);
    fits(x, 32, 16, 1);
    x.cut(0, 1, 209);
    fits(x, 2, 9, 1);
    x.wear(0, 110, 1);
    fits(x, 2, 0, 0);
  }

  private static void readBackAtTheEnds() {
    GearTeeth x = two();
    Check.fill(x, 1, 0, 31, 31, 31, 31, 31, 31, 31, 31, 31, 31, 31, 31, 31, 31, 31, 31);
    x.cut(0, 1, 200);
    fits(x, 2, 0, 1);
    x.cut(0, 1, 208);
    fits(x, 2, 8, 9);
    fits(x, 1, 0, 0);
    x.cut(0, 1, 116);
    fits(x, 1, 16, 1);
    x.put(1, 15, 30);
    fits(x, 1, 0, 0);
    x.put(1, 15, 31);
    x.put(1, 0, 30);
    fits(x, 1, 16, 1);
    due("steps 0", x.readBack(0, 1, 0, -1), -1);
    due("steps 33", x.readBack(0, 1, 33, -1), -1);
    due("the last gear", x.readBack(1, 1, 1, -1), 0);
    due("one behind it", x.readBack(2, 1, 1, -1), -1);
  }

  /** "the FLANK of a GEAR as it is": one WIDTH that is otherwise, at each y once. */
  private static void readBackOfEachWidth() {
    GearTeeth x = two();
    int[] reaches = new int[16];
    Arrays.fill(reaches, 10);
    Check.fill(x, 1, 0, reaches);
    x.cut(0, 1, 208);
    for (int y = 0; y < 16; y++) {
      for (int reach = 9; reach <= 11; reach++) {
        x.put(1, y, reach);
        due("reach " + reach + " at " + y, x.readBack(0, 1, 2, -1), reach == 10 ? 1 : 0);
        due("reach " + reach + " at " + y, x.readBack(0, 1, 2, 0), reach == 10 ? 8 : -4);
      }
      x.put(1, y, 10);
    }
  }
}
