/** Term 5, promises 22 to 26: PAIRS, how far they are PUSHED, what they SHARE, by their first and last values. */
public final class LoadBoundaryTests {
  public static void main(String[] args) {
    gapsAndStiffnesses();
    sixPairs();
    pushedByNone();
    pushedByOne();
    pushedToTheEnd();
    loadOrMore();
    shares();
    bearings();
    cleared();
    Check.end();
  }

  private static void due(String call, long got, long want) {
    Check.due(call, got, want);
  }

  private static GearTeeth pairs(int... gapsAndStiffnesses) {
    GearTeeth x = new GearTeeth();
    for (int i = 0; i < gapsAndStiffnesses.length; i += 2) {
      due("pair", x.pair(gapsAndStiffnesses[i], gapsAndStiffnesses[i + 1]), i / 2 + 1);
    }
    return x;
  }

  /** "a GAP (0 .. 99) and a STIFFNESS (1 .. 99)". */
  private static void gapsAndStiffnesses() {
    int[][] told = {{0, 1, 1}, {0, 99, 1}, {99, 1, 1}, {99, 99, 1}, {-1, 1, -1}, {100, 1, -1}, {0, 0, -1}, {0, 100, -1},
        {0, -1, -1}, {-1, 0, -1}, {100, 100, -1}, {Bench.LOW, 1, -1}, {0, Bench.HIGH, -1}};
    for (int[] t : told) {
      GearTeeth x = new GearTeeth();
      due("pair " + t[0] + " " + t[1], x.pair(t[0], t[1]), t[2]);
      due("pairs", x.count(3), Math.max(t[2], 0));
      if (t[2] == 1) {
        due("the least load", x.pushed(1), t[0] + 1);
        due("its share", x.share(0, 1), t[1]);
      }
    }
  }

  /** "PAIRS (6 at most)"; -1 goes ahead of -2. */
  private static void sixPairs() {
    GearTeeth x = new GearTeeth();
    for (int n = 1; n <= 6; n++) {
      due("share of none yet", x.share(n - 1, 0), -1);
      due("pair " + n, x.pair(n - 1, n), n);
      due("pairs", x.count(3), n);
      due("share of the last", x.share(n - 1, 0), 0);
    }
    for (int i = 0; i < 2; i++) {
      due("a seventh", x.pair(0, 99), -2);
      due("a seventh that is wrong", x.pair(100, 99), -1);
      due("a seventh that is wrong", x.pair(0, 0), -1);
      due("pairs", x.count(3), 6);
    }
    due("as far as with six", x.pushed(20), 4);
    due("as far as with six", x.pushed(21), 5);
    due("of the seventh", x.share(6, 21), -1);
    due("all", x.bearing(9999), 63);
  }

  /** Without PAIRS the sum is 0. */
  private static void pushedByNone() {
    GearTeeth x = new GearTeeth();
    int[][] told = {{-1, -1, -1}, {0, 0, 0}, {1, -4, -3}, {9999, -4, -3}, {10000, -1, -1}};
    for (int[] t : told) {
      due("pushed " + t[0], x.pushed(t[0]), t[1]);
      due("bearing " + t[0], x.bearing(t[0]), t[2]);
      due("share " + t[0], x.share(0, t[0]), -1);
    }
  }

  private static void pushedByOne() {
    GearTeeth x = pairs(5, 10);
    int[][] told = {{0, 0}, {1, 6}, {10, 6}, {11, 7}, {20, 7}, {21, 8}, {9990, 1004}, {9991, 1005}, {9999, 1005},
        {10000, -1}, {-1, -1}};
    for (int[] t : told) {
      due("pushed " + t[0], x.pushed(t[0]), t[1]);
    }
  }

  /** "the least whole x 0 .. 9999": the last that reaches, and the first that would need x 10000. */
  private static void pushedToTheEnd() {
    for (int gap = 0; gap < 100; gap += 11) {
      GearTeeth x = pairs(gap, 1);
      int most = 9999 - gap;
      due("the last, gap " + gap, x.pushed(most), 9999);
      due("one less", x.pushed(most - 1), 9998);
      due("its share", x.share(0, most), most);
      due("it bears", x.bearing(most), 1);
      if (gap > 0) {
        due("one more", x.pushed(most + 1), -4);
        due("its share", x.share(0, most + 1), -3);
        due("it can't bear", x.bearing(most + 1), -3);
        due("the most", x.pushed(9999), -4);
      }
      due("two of them reach", x.pair(99, 1) == 2 ? x.pushed(9999) : -99, (9999 + gap + 99 + 1) / 2);
    }
  }

  /** "the sum of STIFFNESS times (x less GAP, 0 at least) LOAD or more". */
  private static void loadOrMore() {
    GearTeeth x = pairs(0, 2, 3, 5, 3, 7, 10, 1, 99, 99, 98, 99);
    int[][] sums = {{1, 2}, {3, 6}, {4, 20}, {10, 104}, {11, 119}, {98, 1424}, {99, 1538}, {100, 1751}};
    for (int[] s : sums) {
      due("just enough", x.pushed(s[1]), s[0]);
      due("one more", x.pushed(s[1] + 1), s[0] + 1);
    }
    due("all of it", x.pushed(9999), 139);
    GearTeeth most = pairs(0, 99, 0, 99, 0, 99, 0, 99, 0, 99, 0, 99);
    due("594 at 1", most.pushed(594), 1);
    due("595 at 2", most.pushed(595), 2);
    due("9999", most.pushed(9999), 17);
  }

  /** "SHARE of a PAIR: that at x": 0 up to its GAP. */
  private static void shares() {
    GearTeeth x = pairs(0, 10, 5, 20);
    int[][] told = {{0, 0, 0}, {1, 10, 0}, {10, 10, 0}, {11, 20, 0}, {50, 50, 0}, {51, 60, 20}, {80, 60, 20},
        {81, 70, 40}, {9999, 3370, 6640}, {-1, -1, -1}, {10000, -1, -1}};
    for (int[] t : told) {
      due("share of the first, " + t[0], x.share(0, t[0]), t[1]);
      due("share of the last, " + t[0], x.share(1, t[0]), t[2]);
      due("share of none, " + t[0], x.share(2, t[0]), -1);
      due("share of none, " + t[0], x.share(-1, t[0]), -1);
    }
  }

  /** "BEARING: PAIRS (bits) whose SHARE is above 0". */
  private static void bearings() {
    GearTeeth x = pairs(0, 1, 1, 1, 2, 1, 3, 1, 4, 1, 5, 1);
    int[][] told = {{0, 0}, {1, 1}, {2, 3}, {3, 3}, {4, 7}, {6, 7}, {7, 15}, {10, 15}, {11, 31}, {15, 31}, {16, 63},
        {9999, 63}, {-1, -1}, {10000, -1}};
    for (int[] t : told) {
      due("bearing " + t[0], x.bearing(t[0]), t[1]);
    }
    due("the last alone", pairs(9, 1, 9, 1, 9, 1, 9, 1, 9, 1, 0, 1).bearing(9), 32);
    due("all but the last", pairs(0, 1, 0, 1, 0, 1, 0, 1, 0, 1, 99, 1).bearing(9), 31);
  }

  /** "No PAIRS: how many there were." */
  private static void cleared() {
    for (int n = 0; n <= 6; n++) {
      GearTeeth x = new GearTeeth();
      for (int i = 0; i < n; i++) {
        x.pair(0, 99);
      }
      due("clear of " + n, x.clear(), n);
      due("none", x.count(3), 0);
      due("none are pushed", x.pushed(1), -4);
      due("none bear", x.bearing(0), 0);
      due("none share", x.share(0, 0), -1);
      due("again", x.clear(), 0);
      due("from 1 on", x.pair(4, 3), 1);
      due("a new one", x.share(0, 1), 3);
      due("alone", x.pushed(4), 6);
      due("alone", x.bearing(9999), 1);
    }
  }
}
