import java.util.Arrays;

/** Term 4, promises 18 to 21: WEAR, UNTIL a MARK, TONES and WHINE, by their first and last values. */
public final class WearBoundaryTests {
  /** GEAR and RING: KIND, TEETH, and the least LOAD by which it WEARS. */
  private static final int[][] LEAST_LOADS = {
      {0, 9, 110}, {1, 9, 210}, {2, 9, 60}, {3, 9, 260}, {4, 4, 110}, {4, 9, 110}, {4, 10, 120}, {4, 99, 200}};
  /** With these, cut in 2 STEPS, EVEN is 0, and 1 2 2 3 4 4 5 6 6 7 8 7 7 .. as a alone WEARS. */
  private static final int[] RISING_A = {0, 25, 0, 0, 10, 0, 0, 0, 31, 0, 0, 0, 31, 0, 0, 0};
  private static final int[] RISING_B = {0, 0, 0, 20, 10, 0, 31, 20, 31, 25, 10, 10, 25, 0, 0, 20};

  public static void main(String[] args) {
    loadsByHardness();
    loadsThatAreNotRead();
    turnByTurn();
    ofBothGears();
    noughtAtLeast();
    rounds();
    evenThen();
    untilTheFirstRound();
    untilMarks();
    untilFallsAndRises();
    loudOfNoTone();
    loudIsCut();
    loudJustBelowAWhole();
    whinesFirstOfSeveral();
    whinesByWhatIsTold();
    Check.end();
  }

  private static void due(String call, long got, long want) {
    Check.due(call, got, want);
  }

  private static GearTeeth two(int kindA, int kindB) {
    return Check.plant("g" + kindA + " 9 0;g" + kindB + " 9 1;m0 1;");
  }

  private static void cutTwo(GearTeeth x, int[] a, int[] b) {
    Check.fill(x, 1, 0, a);
    x.cut(0, 1, 208);
    Check.fill(x, 1, 0, b);
    x.cut(1, 1, 208);
  }

  private static void flankIs(String what, GearTeeth x, int gear, int... widths) {
    for (int y = 0; y < 16; y++) {
      due(what + ", width " + y + " of " + gear, x.width(gear, y), widths[y]);
    }
  }

  /** "of those of the two whose HARD is below LOAD by 10, cut": each KIND as a, and as b. */
  private static void loadsByHardness() {
    for (int[] known : LEAST_LOADS) {
      for (int place = 0; place < 2; place++) {
        String other = known[0] == 3 ? "g3 9 1;" : "g3 9 2;";
        String mesh = "m" + place + " " + (1 - place) + ";";
        GearTeeth x = Check.plant("g" + known[0] + " " + known[1] + " 0;" + other + mesh);
        int[] loads = {1, 9, 10, 50, known[2] - 10, known[2] - 1};
        for (int load : loads) {
          due("wear by " + load, x.wear(0, load, 1), 0);
          due("kind " + known[0] + " by " + load, x.gear(0, 5), 31);
        }
        x.wear(0, known[2], 1);
        // where both wear, some place of a is touched twice in the first round
        boolean both = known[2] == 260;
        due("kind " + known[0] + " by " + known[2], x.gear(0, 5), both && place == 0 ? 29 : 30);
        due("the other", x.gear(1, 5), !both ? 31 : place == 1 ? 29 : 30);
      }
    }
  }

  /** "a LOAD (1 .. 999)", "n ROUNDS (1 .. 100)". */
  private static void loadsThatAreNotRead() {
    GearTeeth x = two(0, 3);
    int[][] told = {{1, 1, 0}, {999, 1, 0}, {1, 100, 0}, {999, 100, 0}, {0, 1, -1}, {1000, 1, -1}, {1, 0, -1},
        {1, 101, -1}, {-1, 1, -1}, {1, -1, -1}};
    for (int[] t : told) {
      due("wear by " + t[0] + ", rounds " + t[1], x.wear(0, t[0], t[1]), t[2]);
    }
    due("all is worn", x.count(5), 0);
  }

  /** "TURN by TURN, t from 0 on: at TOUCH as it is then". */
  private static void turnByTurn() {
    GearTeeth x = two(0, 1);
    Bench.flank(x, 0, Bench.bump(20, 3, 28));
    due("a alone", x.wear(0, 110, 1), 0);
    flankIs("the bump goes first", x, 0, 19, 19, 19, 19, 19, 19, 19, 19, 20, 20, 20, 20, 20, 20, 20, 20);
    due("b is as it was", x.gear(1, 5), 31);
    GearTeeth z = two(1, 0);
    Bench.flank(z, 1, Bench.bump(20, 12, 28));
    due("b alone", z.wear(0, 110, 1), 0);
    flankIs("the bump goes first", z, 1, 20, 20, 20, 20, 20, 20, 20, 19, 19, 19, 19, 19, 19, 19, 19, 20);
    due("a is as it was", z.gear(0, 5), 31);
  }

  /** Both WEAR, from FLANKS as they were at first: three ROUNDS. */
  private static void ofBothGears() {
    GearTeeth x = two(0, 0);
    due("one round", x.wear(0, 110, 1), 0);
    flankIs("one round", x, 0, 30, 30, 29, 30, 29, 30, 30, 29, 30, 30, 30, 31, 31, 30, 31, 30);
    flankIs("one round", x, 1, 30, 30, 30, 30, 30, 30, 30, 30, 30, 30, 30, 30, 30, 30, 30, 30);
    x.wear(0, 110, 2);
    flankIs("three rounds", x, 0, 28, 28, 27, 28, 27, 28, 27, 28, 28, 28, 29, 28, 29, 28, 29, 28);
    flankIs("three rounds", x, 1, 28, 28, 28, 28, 28, 28, 28, 28, 28, 28, 28, 28, 28, 28, 28, 28);
    GearTeeth other = Check.plant("g0 9 0;g0 9 1;m1 0;");
    other.wear(0, 110, 1);
    flankIs("told the other way", other, 1, 30, 30, 29, 30, 29, 30, 30, 29, 30, 30, 30, 31, 31, 30, 31, 30);
    flankIs("told the other way", other, 0, 30, 30, 30, 30, 30, 30, 30, 30, 30, 30, 30, 30, 30, 30, 30, 30);
  }

  /** "(0 at least)". */
  private static void noughtAtLeast() {
    GearTeeth x = two(0, 0);
    Bench.flank(x, 0, Bench.bump(1, 0, 1));
    Bench.flank(x, 1, Bench.bump(1, 0, 1));
    due("from 1", x.wear(0, 999, 1), 0);
    flankIs("from 1", x, 0, 0, 0, 0, 0, 0, 0, 0, 0, 0, 0, 0, 1, 1, 0, 1, 0);
    due("b from 1", x.count(5), 3);
    for (int rounds : new int[] {1, 1, 100}) {
      due("on", x.wear(0, 999, rounds), 0);
      due("nothing is left", x.count(5), 0);
      due("off is room", x.gap(0), 62);
    }
    GearTeeth one = two(0, 1);
    Bench.flank(one, 0, Bench.bump(0, 9, 2));
    due("a has one place left", one.wear(0, 110, 1), 0);
    due("and none", one.count(5), 16 * 31);
    due("a stays at 0", one.wear(0, 110, 100), 0);
    due("b is as it was", one.count(5), 16 * 31);
  }

  private static void rounds() {
    for (int n : new int[] {1, 2, 7, 100}) {
      GearTeeth atOnce = two(0, 1);
      GearTeeth oneByOne = two(0, 1);
      cutTwo(atOnce, RISING_A, RISING_B);
      cutTwo(oneByOne, RISING_A, RISING_B);
      int even = 0;
      for (int i = 0; i < n; i++) {
        even = oneByOne.wear(0, 110, 1);
      }
      due(n + " rounds at once", atOnce.wear(0, 110, n), even);
      for (int y = 0; y < 16; y++) {
        due(n + " rounds, width " + y, atOnce.width(0, y), oneByOne.width(0, y));
      }
      due("even stands so", atOnce.even(0), even);
    }
  }

  /** "EVEN then": behind the last ROUND. */
  private static void evenThen() {
    int[] evens = {1, 2, 2, 3, 4, 4, 5, 6, 6, 7, 8, 7, 7, 7, 6};
    GearTeeth x = two(0, 1);
    cutTwo(x, RISING_A, RISING_B);
    due("at first", x.even(0), 0);
    for (int round = 0; round < evens.length; round++) {
      due("round " + (round + 1), x.wear(0, 110, 1), evens[round]);
    }
    GearTeeth again = two(0, 1);
    cutTwo(again, RISING_A, RISING_B);
    due("eleven rounds", again.wear(0, 110, 11), 8);
    due("told again", again.even(0), 8);
  }

  /** "the first ROUND (1 .. 200) behind which EVEN is MARK or more; -4 none; nothing changes". */
  private static void untilTheFirstRound() {
    int[] firsts = {1, 2, 4, 5, 7, 8, 10, 11, -4, -4};
    GearTeeth x = two(0, 1);
    cutTwo(x, RISING_A, RISING_B);
    for (int mark = 1; mark <= firsts.length; mark++) {
      due("until " + mark, x.until(0, 110, mark), firsts[mark - 1]);
    }
    due("nothing wears", x.until(0, 109, 1), -4);
    due("as it was", x.even(0), 0);
    due("one round", x.wear(0, 110, 1), 1);
    due("one less", x.until(0, 110, 8), 10);
    due("at once", x.until(0, 110, 2), 1);
    GearTeeth late = two(0, 1);
    cutTwo(late, new int[] {3, 1, 1, 1, 0, 1, 3, 20, 1, 1, 2, 3, 3, 2, 20, 1},
        new int[] {3, 2, 1, 2, 3, 2, 3, 1, 3, 0, 2, 2, 1, 2, 2, 3});
    due("from the first round on", late.until(0, 110, 2), 1);
    due("late", late.until(0, 110, 3), 14);
    due("never", late.until(0, 110, 4), -4);
  }

  /** "UNTIL a MARK (1 .. 62)". */
  private static void untilMarks() {
    GearTeeth x = two(0, 0);
    Bench.flank(x, 0, Bench.bump(0, 8, 31));
    Bench.flank(x, 1, Bench.bump(0, 9, 31));
    due("even, most", x.even(0), 31);
    int[][] told = {{0, -1}, {1, 1}, {30, 1}, {31, 1}, {32, -4}, {61, -4}, {62, -4}, {63, -1}, {-1, -1}};
    for (int[] t : told) {
      due("until " + t[0], x.until(0, 1, t[0]), t[1]);
      due("until " + t[0] + ", just not worn", x.until(0, 109, t[0]), t[1]);
    }
    due("load 0", x.until(0, 0, 1), -1);
    due("load 1000", x.until(0, 1000, 1), -1);
    due("load 999, worn even", x.until(0, 999, 31), -4);
    due("still as it was", x.even(0), 31);
  }

  /** EVEN is 2, then 1, then 2: ROUND 0 is none of those that are asked. */
  private static void untilFallsAndRises() {
    GearTeeth x = two(0, 1);
    cutTwo(x, new int[] {2, 1, 0, 0, 2, 1, 3, 3, 0, 0, 3, 3, 1, 20, 2, 3},
        new int[] {0, 1, 2, 20, 3, 0, 1, 3, 20, 20, 3, 1, 20, 1, 1, 0});
    due("even at first", x.even(0), 2);
    due("behind the second round", x.until(0, 110, 2), 2);
    due("one round", x.wear(0, 110, 1), 1);
    due("one more", x.until(0, 110, 2), 1);
  }

  /** TONE 0 is the sum itself, and squared it has no sign. */
  private static void loudOfNoTone() {
    GearTeeth x = two(0, 0);
    int[][] rooms = {{62, 0}, {61, 256}, {60, 1024}, {31, 246016}, {0, 984064}};
    for (int[] room : rooms) {
      x.room(0, room[0]);
      due("loud 0, room " + room[0], x.loud(0, 0), room[1]);
      for (int k = 1; k <= 8; k++) {
        due("loud " + k + ", room " + room[0], x.loud(0, k), 0);
      }
      due("whine of none", x.whine(0), 1);
    }
    x.room(0, 62);
    x.wear(0, 999, 100);
    due("above 0", x.loud(0, 0), 984064);
    due("tone 9", x.loud(0, 9), -1);
    due("tone -1", x.loud(0, -1), -1);
  }

  /** One TURN has an OFF of its own: 1000 and 0, 924 and 383, 707 and 707 give 1000000, 1000465 and 999698. */
  private static void loudIsCut() {
    int[] amounts = {1, 8};
    for (int amount : amounts) {
      for (int t = 0; t < 16; t++) {
        GearTeeth x = two(0, 1);
        Bench.flank(x, 0, Bench.bump(20, 0, 20 + amount));
        Bench.flank(x, 1, Bench.bump(20, (t + 15) % 16, 20 + amount));
        due("the one", x.off(0, t), 22 - 2 * amount);
        due("the others", x.off(0, (t + 1) % 16), 22 - amount);
        for (int k = 1; k <= 8; k++) {
          int cutOff = k * t % 4 == 2 ? 1 : 0;
          due("loud " + k + " at " + t, x.loud(0, k), amount * amount - cutOff);
        }
        due("whine at " + t, x.whine(0), t % 4 == 2 ? 2 : 1);
      }
    }
    GearTeeth most = two(0, 1);
    Bench.flank(most, 0, Bench.bump(0, 8, 31));
    Bench.flank(most, 1, Bench.bump(0, 8, 31));
    int[] louds = {961, 960, 961, 961, 961, 960, 961, 961};
    for (int k = 1; k <= 8; k++) {
      due("one turn by 31, loud " + k, most.loud(0, k), louds[k - 1]);
    }
  }

  /** The squares make 1839999941 together, and 1351999970. */
  private static void loudJustBelowAWhole() {
    GearTeeth x = two(0, 1);
    Check.fill(x, 1, 0, 31, 31, 31, 31, 31, 31, 17, 31, 31, 22, 27, 18, 31, 31, 31, 31);
    x.cut(0, 1, 208);
    Check.fill(x, 1, 0, 26, 28, 27, 25, 24, 31, 31, 31, 31, 31, 31, 31, 31, 31, 31, 31);
    x.cut(1, 1, 108);
    due("59 below 1840", x.loud(0, 1), 1839);
    Check.fill(x, 1, 0, 31, 31, 15, 31, 31, 31, 31, 31, 1, 15, 31, 31, 31, 31, 31, 31);
    x.cut(0, 1, 208);
    Check.fill(x, 1, 0, 25, 31, 31, 24, 24, 24, 29, 31, 31, 31, 31, 31, 31, 31, 31, 31);
    x.cut(1, 1, 108);
    due("30 below 1352", x.loud(0, 3), 1351);
  }

  /** "the TONE 1 .. 8 that is loudest, the first of several". */
  private static void whinesFirstOfSeveral() {
    int[][] places = {{15, 7}, {15, 11, 7, 3}, {15, 13, 11, 9, 7, 5, 3, 1}, {14, 12, 10, 8, 6, 4, 2, 0}};
    int[] whines = {2, 4, 8, 8};
    for (int i = 0; i < places.length; i++) {
      GearTeeth x = two(0, 1);
      int[] widths = new int[16];
      Arrays.fill(widths, 20);
      for (int z : places[i]) {
        widths[z] = 28;
      }
      Bench.flank(x, 0, Bench.bump(20, 0, 28));
      Bench.flank(x, 1, widths);
      int n = places[i].length;
      for (int k = 1; k <= 8; k++) {
        due(n + " times, loud " + k, x.loud(0, k), k % whines[i] == 0 ? 64L * n * n : 0);
      }
      due(n + " times, whine", x.whine(0), whines[i]);
    }
    due("none at all", two(0, 1).whine(0), 1);
  }

  /** TONES 2 and 7 are both told as 3, though 7 is louder by what is cut: so 2 is the first of several. */
  private static void whinesByWhatIsTold() {
    GearTeeth x = two(0, 1);
    cutTwo(x, new int[] {3, 0, 0, 0, 0, 6, 9, 6, 4, 9, 0, 9, 9, 0, 9, 0},
        new int[] {8, 0, 8, 4, 0, 5, 0, 5, 0, 0, 2, 3, 0, 0, 3, 0});
    int[] louds = {4, 0, 3, 1, 2, 2, 0, 3, 0};
    for (int k = 0; k <= 8; k++) {
      due("loud " + k, x.loud(0, k), louds[k]);
    }
    due("whine", x.whine(0), 2);
  }
}
