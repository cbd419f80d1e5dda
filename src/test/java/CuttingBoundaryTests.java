import java.util.Arrays;

/** Terms 1 and 4, promises 11 to 17: cutters, FLANKS, and where two of them touch, by their first and last values. */
public final class CuttingBoundaryTests {
  private static final int[] NO_REACH = new int[16];

  public static void main(String[] args) {
    shiftsAndSteps();
    reaches();
    oneReachInOneStep();
    ups();
    upSquaredIsCut();
    widthsAreNoughtAtLeast();
    cutAnew();
    thinAndTop();
    undercuts();
    whichPlacesMeet();
    touches();
    jams();
    gapsAndEven();
    ofTwoMeshes();
    rooms();
    Check.end();
  }

  private static void due(String call, long got, long want) {
    Check.due(call, got, want);
  }

  private static GearTeeth two() {
    return Check.plant("g0 9 0;g1 9 1;m0 1;");
  }

  private static void flankIs(String what, GearTeeth x, int... widths) {
    for (int y = 0; y < 16; y++) {
      due(what + ", width " + y, x.width(0, y), widths[y]);
    }
  }

  private static int[] reach(int y, int far) {
    int[] reaches = new int[16];
    reaches[y] = far;
    return reaches;
  }

  /** "a SHIFT (-8 .. 8), in n STEPS (1 .. 32)", told as 100 times n and SHIFT and 8. */
  private static void shiftsAndSteps() {
    GearTeeth x = two();
    Check.fill(x, 1, 0, 31, 31, 31, 31, 31, 31, 31, 31, 31, 31, 31, 31, 31, 31, 31, 31);
    int[][] told = {{100, 16}, {101, 15}, {108, 8}, {115, 1}, {116, 0}, {200, 8}, {207, 1}, {208, 0}, {209, 0},
        {216, 0}, {3100, 8}, {3200, 8}, {3208, 0}, {3216, 0}};
    for (int[] t : told) {
      due("cut " + t[0], x.cut(0, 1, t[0]), t[1]);
      due("thin " + t[0], x.gear(0, 5), t[1]);
    }
    int[] refused = {99, 117, 217, 3117, 3217, 3300, 3308, 0, 8, 16, -100, -108};
    for (int t : refused) {
      x.cut(0, 1, 108);
      due("cut " + t, x.cut(0, 1, t), -1);
      due("thin as before " + t, x.gear(0, 5), 8);
    }
  }

  /** "REACHES 0 .. 31", 16 of them, of the lowest bits. */
  private static void reaches() {
    GearTeeth x = two();
    int[][] told = {{0, 31}, {1, 30}, {30, 1}, {31, 0}, {256, 31}, {287, 0}, {-225, 0},
        {32, -13}, {-1, -13}, {127, -13}, {128, -13}, {255, -13}, {288, -13}};
    for (int[] t : told) {
      for (int y = 0; y < 16; y += 15) {
        x.row(1, 0, 16);
        x.put(1, y, t[0]);
        due("reach " + t[0] + " at " + y, x.cut(0, 1, 208), t[1]);
      }
    }
    for (int size : new int[] {0, 1, 15, 16, 17, 32, 120}) {
      x.row(1, 0, size);
      due(size + " reaches", x.cut(0, 1, 200), size == 16 ? 31 : -13);
      due(size + " reaches, best shift", x.bestShift(0, 1, 1), size == 16 ? 0 : Bench.FAR - 13);
      due(size + " reaches, read back", x.readBack(0, 1, 2, 0), size == 16 ? 0 : -13);
    }
  }

  /** In one STEP y less UP is 8 .. 15 for y 0 .. 7; WIDTHS from 8 on stay as they were at first. */
  private static void oneReachInOneStep() {
    for (int at = 0; at < 16; at++) {
      GearTeeth x = two();
      Check.fill(x, 1, 0, reach(at, 20));
      x.cut(0, 1, 116);
      int[] due = new int[16];
      Arrays.fill(due, 31);
      if (at >= 8) {
        due[at - 8] = 11;
      }
      flankIs("reach at " + at, x, due);
    }
  }

  /** "UP is 16 times k by n, cut, less 8": where a REACH of 31 at y 0 comes to be, for all n. */
  private static void ups() {
    int[][] ups = {{-8}, {-8, 0}, {-8, -3, 2}, {-8, -4, 0, 4}, {-8, -5, -2, 1, 4}, {-8, -6, -3, 0, 2, 5},
        {-8, -6, -4, -2, 1, 3, 5}};
    GearTeeth x = two();
    Check.fill(x, 1, 0, reach(0, 31));
    for (int n = 1; n <= 7; n++) {
      x.cut(0, 1, 100 * n + 8);
      int[] due = new int[16];
      Arrays.fill(due, 31);
      for (int up : ups[n - 1]) {
        if (up >= 0) {
          due[up] = up * up / 8;
        }
      }
      flankIs(n + " steps", x, due);
    }
    GearTeeth z = two();
    Check.fill(z, 1, 0, reach(0, 31));
    int[] all = {0, 0, 0, 1, 2, 3, 4, 6, 31, 31, 31, 31, 31, 31, 31, 31};
    for (int n : new int[] {16, 17, 31, 32}) {
      z.cut(0, 1, 100 * n + 8);
      flankIs(n + " steps", z, all);
    }
    z.cut(0, 1, 1508);
    flankIs("15 steps", z, 0, 0, 0, 1, 2, 3, 4, 31, 31, 31, 31, 31, 31, 31, 31, 31);
  }

  /** "less UP times UP by 8, cut": by a REACH at y 15 for UP below 0, so that UP is 0 at y 15. */
  private static void upSquaredIsCut() {
    GearTeeth x = two();
    Check.fill(x, 1, 0, reach(15, 31));
    x.cut(0, 1, 1608);
    flankIs("16 steps, far end", x, 31, 31, 31, 31, 31, 31, 31, 8, 6, 4, 3, 2, 1, 0, 0, 0);
  }

  /** "0 at least", and 31 at most. */
  private static void widthsAreNoughtAtLeast() {
    GearTeeth x = two();
    int[][] told = {{31, 208, 0}, {30, 208, 1}, {30, 209, 0}, {31, 207, 1}, {31, 216, 0}, {31, 200, 8},
        {23, 216, 0}, {22, 216, 1}, {24, 216, 0}, {0, 216, 23}, {8, 200, 31}, {7, 200, 31}, {9, 200, 30}, {0, 200, 31}};
    for (int[] t : told) {
      Check.fill(x, 1, 0, reach(9, t[0]));
      x.cut(0, 1, t[1]);
      due("reach " + t[0] + ", told " + t[1], x.width(0, 9), t[2]);
    }
  }

  /** "FLANK is 31 everywhere": whatever was cut or worn before. */
  private static void cutAnew() {
    GearTeeth x = two();
    Check.fill(x, 1, 0, reach(3, 9));
    Check.fill(x, 2, 0, NO_REACH);
    x.cut(0, 1, 208);
    x.wear(0, 999, 5);
    x.wear(0, 999, 100);
    due("thin before", x.gear(0, 5), 0);
    due("cut anew", x.cut(0, 2, 208), 31);
    flankIs("cut anew", x, 31, 31, 31, 31, 31, 31, 31, 31, 31, 31, 31, 31, 31, 31, 31, 31);
    due("the other is worn still", x.count(5), 16 * 31);
  }

  /** "THIN: the least WIDTH; TOP: that of y 15": the thinnest at each place once. */
  private static void thinAndTop() {
    for (int y = 0; y < 16; y++) {
      GearTeeth x = two();
      Bench.flank(x, 0, Bench.bump(25, y, 24));
      due("thin at " + y, x.gear(0, 5), 24);
      due("top, thin at " + y, x.gear(0, 6), y == 15 ? 24 : 25);
      due("the other", x.gear(1, 5), 31);
      due("all widths", x.count(5), 15 * 25 + 24 + 16 * 31);
    }
  }

  private static void undercut(int due, int... widths) {
    GearTeeth x = two();
    Bench.flank(x, 0, widths);
    due("undercut of " + Arrays.toString(widths), x.gear(0, 7), due);
  }

  /** "the first y 0 .. 14 with WIDTH below that of y and 1, and below that of some y ahead of it; -4 none". */
  private static void undercuts() {
    for (int y = 0; y < 16; y++) {
      undercut(y >= 1 && y <= 14 ? y : -4, Bench.bump(25, y, 24));
      undercut(-4, Bench.bump(24, y, 25));
    }
    undercut(1, 25, 24, 25, 24, 24, 24, 24, 24, 24, 24, 24, 24, 24, 24, 24, 24);
    undercut(-4, Bench.bump(25, 3, 26));
    undercut(-4, 25, 25, 25, 25, 25, 25, 25, 25, 25, 25, 25, 25, 25, 25, 25, 25);
    undercut(-4, 30, 29, 28, 27, 26, 25, 24, 23, 22, 22, 22, 22, 22, 22, 22, 22);
    undercut(-4, 16, 17, 18, 19, 20, 21, 22, 23, 24, 25, 26, 27, 28, 29, 30, 31);
    undercut(14, 25, 25, 25, 25, 25, 25, 25, 25, 25, 25, 25, 25, 25, 25, 24, 25);
    undercut(14, 25, 24, 24, 24, 24, 24, 24, 24, 24, 24, 24, 24, 24, 24, 24, 25);
    undercut(14, 24, 24, 24, 24, 24, 24, 24, 24, 24, 24, 24, 24, 24, 24, 23, 24);
    undercut(-4, 24, 24, 24, 24, 24, 24, 24, 24, 24, 24, 24, 24, 24, 24, 24, 25);
    undercut(2, 25, 24, 24, 25, 24, 25, 25, 25, 25, 25, 25, 25, 25, 25, 25, 25);
    undercut(3, 24, 25, 25, 24, 25, 20, 21, 25, 25, 25, 25, 25, 25, 25, 25, 25);
    undercut(5, 20, 21, 22, 23, 24, 23, 24, 24, 24, 24, 24, 24, 24, 24, 24, 24);
    undercut(5, 22, 21, 21, 21, 21, 20, 21, 20, 22, 22, 22, 22, 22, 22, 22, 22);
    GearTeeth x = two();
    due("at first", x.gear(0, 7), -4);
  }

  /** "WIDTH (15 less y and t, modulo 16) of b": y of a and z of b meet at TURN y and z and 1, modulo 16. */
  private static void whichPlacesMeet() {
    for (int y = 0; y < 16; y++) {
      for (int z = 0; z < 16; z++) {
        GearTeeth x = two();
        Bench.flank(x, 0, Bench.bump(20, y, 28));
        Bench.flank(x, 1, Bench.bump(20, z, 28));
        for (int t = 0; t < 16; t++) {
          due("off, " + y + " and " + z + " at " + t, x.off(0, t), t == (y + z + 1) % 16 ? 6 : 14);
        }
      }
    }
  }

  /** "TOUCH: the least y where it is that": the first place, the last, and the least of several. */
  private static void touches() {
    GearTeeth flat = two();
    for (int t = 0; t < 16; t++) {
      due("flat, touch at " + t, flat.touch(0, t), 0);
    }
    for (int y = 0; y < 16; y++) {
      GearTeeth x = two();
      Bench.flank(x, 0, Bench.bump(20, y, 28));
      GearTeeth z = two();
      Bench.flank(z, 1, Bench.bump(20, y, 28));
      GearTeeth both = two();
      Bench.flank(both, 0, Bench.bump(20, 5, 28));
      Bench.flank(both, 1, Bench.bump(20, y, 28));
      for (int t = 0; t < 16; t++) {
        int facing = (31 + t - y) % 16;
        due("a is wide at " + y + ", touch at " + t, x.touch(0, t), y);
        due("b is wide at " + y + ", touch at " + t, z.touch(0, t), facing);
        due("both are wide, touch at " + t, both.touch(0, t), Math.min(5, facing));
      }
    }
  }

  /** "JAM: the first t with OFF below 0; -4 none": at each TURN once, and OFF 0 is no JAM. */
  private static void jams() {
    for (int t = 0; t < 16; t++) {
      GearTeeth x = two();
      Bench.flank(x, 0, Bench.bump(20, 7, 28));
      Bench.flank(x, 1, Bench.bump(20, (t + 8) % 16, 28));
      x.room(0, 56);
      due("off 0 at " + t, x.off(0, t), 0);
      due("no jam", x.jam(0), -4);
      x.room(0, 55);
      due("off -1 at " + t, x.off(0, t), -1);
      due("jam at " + t, x.jam(0), t);
      x.room(0, 48);
      due("jam still at " + t, x.jam(0), t);
      x.room(0, 47);
      due("jam at all", x.jam(0), 0);
    }
    GearTeeth x = two();
    int[] widths = Bench.bump(20, 15, 28);
    widths[3] = 28;
    Bench.flank(x, 0, Bench.bump(20, 7, 28));
    Bench.flank(x, 1, widths);
    x.room(0, 55);
    due("off at 7", x.off(0, 7), -1);
    due("off at 11", x.off(0, 11), -1);
    due("the first of two", x.jam(0), 7);
  }

  /** "GAP: the least OFF. EVEN: the greatest OFF less the least": with the least and the greatest of all. */
  private static void gapsAndEven() {
    GearTeeth x = two();
    due("flat, gap", x.gap(0), 0);
    x.room(0, 0);
    due("no room, gap", x.gap(0), -62);
    due("no room, off", x.off(0, 15), -62);
    due("no room, even", x.even(0), 0);
    x.room(0, 62);
    x.wear(0, 999, 100);
    due("worn to nothing", x.count(5), 0);
    due("worn to nothing, gap", x.gap(0), 62);
    due("worn to nothing, off", x.off(0, 0), 62);
    for (int t = 0; t < 16; t++) {
      GearTeeth z = two();
      int[] least = new int[16];
      least[8] = 31;
      Bench.flank(z, 0, least);
      least[8] = 0;
      int at = (t + 7) % 16;
      boolean low = at < 8;
      least[at] = low ? 8 : 31;
      Bench.flank(z, 1, least);
      due("gap at " + t, z.gap(0), low ? 23 : 0);
      due("off at " + t, z.off(0, t), low ? 23 : 0);
      due("even, least at " + t, z.even(0), low ? 8 : 31);
      z.room(0, 1);
      due("even is the same", z.even(0), low ? 8 : 31);
      due("gap isn't", z.gap(0), low ? -38 : -61);
    }
    for (int t = 0; t < 16; t++) {
      GearTeeth z = two();
      Bench.flank(z, 0, Bench.bump(20, 15, 28));
      Bench.flank(z, 1, Bench.bump(28, t, 20));
      due("even, greatest at " + t, z.even(0), 8);
      due("off, greatest at " + t, z.off(0, t), 14);
      due("gap, greatest at " + t, z.gap(0), 6);
    }
  }

  /** "two that MESH, a (told first) and b". */
  private static void ofTwoMeshes() {
    GearTeeth x = Check.plant("g0 9 0;g0 9 1;g0 9 2;m1 0;m0 2;d1 0 60;");
    Bench.flank(x, 1, Bench.bump(20, 12, 28));
    Bench.flank(x, 0, Bench.bump(20, 6, 28));
    for (int t = 0; t < 16; t += 3) {
      due("a is gear 1", x.touch(0, t), Math.min(12, (31 + t - 6) % 16));
      due("a is gear 0", x.touch(1, t), 6);
      due("off of the first", x.off(0, t), t == 3 ? 4 : 12);
      due("off of the second", x.off(1, t), 3);
    }
    due("even of the first", x.even(0), 8);
    due("even of the second", x.even(1), 0);
  }

  /** "ROOM of a MESH (0 .. 62): what it was." */
  private static void rooms() {
    GearTeeth x = Check.plant("g0 9 0;g0 9 1;g0 9 2;m0 1;m1 2;d1 0 9;");
    int[] rooms = {0, 62, 1, 61, 30};
    int was = 9;
    for (int room : rooms) {
      due("room " + room, x.room(0, room), was);
      due("room told", x.mesh(0, 2), room);
      due("off", x.off(0, 0), room - 62);
      due("the other", x.mesh(1, 2), 62);
      was = room;
    }
    due("room 63", x.room(0, 63), -1);
    due("room -1", x.room(0, -1), -1);
    due("as it was", x.mesh(0, 2), 30);
    due("the last mesh", x.room(1, 5), 62);
    due("one behind it", x.room(2, 5), -1);
  }
}
