/** Term 1 and its SHELVES, promises 37 to 43: the first SHELF and the last, the first place and the last. */
public final class ShelfBoundaryTests {
  private static final int LOW = Bench.LOW;
  private static final int HIGH = Bench.HIGH;

  public static void main(String[] args) {
    shelves();
    keepNothing();
    keepGears();
    keptAsThen();
    sizes();
    noughtAtFirst();
    places();
    lowestBits();
    copiesOfAll();
    copiesOfNone();
    copiesOntoThemselves();
    copiesBySort();
    weights();
    weightsByTheFlank();
    tosses();
    tossesByTheFlank();
    Check.end();
  }

  private static void due(String call, long got, long want) {
    Check.due(call, got, want);
  }

  /** "SHELVES 0 .. 7": each holds its own. */
  private static void shelves() {
    GearTeeth x = Check.plant("g0 9 0;");
    for (int d = 0; d < 8; d++) {
      Check.fill(x, d, d % 3, d, d + 10);
    }
    for (int d = 0; d < 8; d++) {
      due("first of " + d, x.element(d, 0), d);
      due("last of " + d, x.element(d, 1), d + 10);
      due("behind it", Bench.thrown(x, d, 2), 2);
    }
    for (int d : new int[] {-1, 8, LOW, HIGH}) {
      due("row " + d, x.row(d, 0, 1), -1);
      due("put " + d, x.put(d, 0, 1), -1);
      due("keep " + d, x.keep(d, 1, 0), -1);
      due("keep " + d, x.keep(d, 0, 0), -1);
      due("element " + d, Bench.thrown(x, d, 0), 1);
      due("copy " + d, x.copy(d, 0, 0, 0, 1), -1);
      due("copy " + d, x.copy(0, 0, d, 0, 1), -1);
      due("weight " + d, x.weight(d), -1);
      due("toss " + d, x.toss(d), -1);
    }
    for (int d = 0; d < 8; d++) {
      due("keep " + d, x.keep(d, 1, 0), 0);
      due("weight " + d, x.weight(d), 119);
      due("keep nothing " + d, x.keep(d, 0, 0), 0);
      due("weight " + d, x.weight(d), -11);
    }
  }

  /** "what = 0 nothing (the others do not matter)". */
  private static void keepNothing() {
    GearTeeth x = Check.plant("g0 9 0;");
    for (int k : new int[] {0, 1, -1, 12, LOW, HIGH}) {
      x.keep(3, 1, 0);
      due("keep nothing, " + k, x.keep(3, 0, k), 0);
      due("nothing", x.weight(3), -11);
      x.row(3, 0, 2);
      due("keep nothing, " + k, x.keep(3, 0, k), 0);
      due("nothing", x.put(3, 0, 1), -11);
      due("nothing of nothing", x.keep(3, 0, k), 0);
      due("nothing", Bench.thrown(x, 3, 0), 2);
    }
    due("without gears", new GearTeeth().keep(0, 0, 0), 0);
    for (int what : new int[] {-1, 2, LOW, HIGH}) {
      x.row(3, 0, 2);
      due("keep, what " + what, x.keep(3, what, 0), -1);
      due("as it was", x.weight(3), -12);
    }
  }

  /** "1 GEAR k": the first and the last of those that are there. */
  private static void keepGears() {
    GearTeeth x = new GearTeeth();
    due("none yet", x.keep(0, 1, 0), -1);
    for (int gear = 0; gear < 12; gear++) {
      Check.say(x, "g0 " + (10 + gear) + " 0;");
      due("keep " + gear, x.keep(0, 1, gear), 0);
      due("its weight", x.weight(0), 120 + gear);
      due("its number", x.toss(0), gear);
      due("behind the last", x.keep(0, 1, gear + 1), -1);
      due("ahead of the first", x.keep(0, 1, -1), -1);
      due("as it was", x.weight(0), 120 + gear);
    }
    due("a gear over a row", x.row(0, 2, 5) + x.keep(0, 1, 3), 0);
    due("is no row", Bench.thrown(x, 0, 0), 2);
    due("a row over a gear", x.row(0, 2, 0), 0);
    due("is no gear", x.weight(0), -12);
  }

  /** "a GEAR (its number, KIND, TEETH, FLANK as then)". */
  private static void keptAsThen() {
    GearTeeth x = Check.plant("g4 9 0;g2 9 1;m1 0;");
    x.image();
    Check.say(x, "g2 99 2;");
    x.keep(1, 1, 2);
    x.keep(2, 1, 1);
    x.wear(0, 999, 9);
    due("worn", x.gear(1, 5) < 31 ? 1 : 0, 1);
    due("kept ahead of that", x.weight(2), 100 + 9 + 5 + 31);
    x.keep(3, 1, 1);
    due("kept behind it", x.weight(3), 100 + 9 + 5 + x.gear(1, 5));
    due("toss behind it", x.toss(3), 1 + 100 + x.gear(1, 5));
    x.restore();
    due("the gear is no more, its weight", x.weight(1), 100 + 99 + 5 + 31);
    due("its number", x.toss(1), 2 + 100 + 31);
    Check.say(x, "g0 4 2;");
    due("another has its number", x.weight(1), 100 + 99 + 5 + 31);
    due("asked twice", x.weight(1), 235);
    due("asked twice", x.toss(1), 133);
  }

  /** "0 .. 120 elements". */
  private static void sizes() {
    for (int sort = 0; sort < 3; sort++) {
      for (int n : new int[] {0, 1, 2, 119, 120}) {
        GearTeeth x = new GearTeeth();
        due("row of " + n, x.row(7, sort, n), 0);
        due("put at the last", x.put(7, n - 1, 7), n == 0 ? -13 : 0);
        due("put behind it", x.put(7, n, 7), -13);
        due("put ahead of the first", x.put(7, -1, 7), -13);
        due("the last", n == 0 ? 7 : x.element(7, n - 1), 7);
        due("behind it", Bench.thrown(x, 7, n), 2);
        due("ahead of the first", Bench.thrown(x, 7, -1), 2);
        due("row of 121", x.row(7, sort, 121), -1);
        due("row of -1", x.row(7, sort, -1), -14);
        due("the last still", n == 0 ? 7 : x.element(7, n - 1), 7);
        due("none where there was none", Bench.thrown(x, 7, n), 2);
      }
    }
    GearTeeth x = new GearTeeth();
    due("sort -1", x.row(0, -1, 1), -1);
    due("sort 3", x.row(0, 3, 1), -1);
    due("sort 3, size below 0", x.row(0, 3, -1), -1);
    due("nothing is there", x.put(0, 0, 0), -11);
  }

  /** "elements, 0 at first": also where others were before. */
  private static void noughtAtFirst() {
    for (int sort = 0; sort < 3; sort++) {
      GearTeeth x = new GearTeeth();
      x.row(0, 2 - sort, 120);
      for (int i = 0; i < 120; i++) {
        x.put(0, i, -1);
      }
      due("row", x.row(0, sort, 5), 0);
      due("put", x.put(0, 2, 9), 0);
      for (int i = 0; i < 5; i++) {
        due("element " + i, x.element(0, i), i == 2 ? 9 : 0);
      }
      due("row", x.row(0, sort, 120), 0);
      for (int i = 0; i < 120; i++) {
        due("element " + i, x.element(0, i), 0);
      }
    }
  }

  /** Each place holds its own. */
  private static void places() {
    GearTeeth x = new GearTeeth();
    x.row(4, 1, 120);
    for (int i = 0; i < 120; i++) {
      due("put " + i, x.put(4, i, 300 - i), 0);
    }
    for (int i = 0; i < 120; i++) {
      due("element " + i, x.element(4, i), 300 - i);
    }
    for (int i : new int[] {-1, 120, 121, LOW, HIGH}) {
      due("put " + i, x.put(4, i, 1), -13);
      due("element " + i, Bench.thrown(x, 4, i), 2);
    }
  }

  /** "what is put in keeps its lowest bits": 8, 16, 32 of them. */
  private static void lowestBits() {
    long[][] told = {
        {0, 0, 0, 0}, {127, 127, 127, 127}, {128, -128, 128, 128}, {129, -127, 129, 129},
        {255, -1, 255, 255}, {256, 0, 256, 256}, {-1, -1, -1, -1}, {-128, -128, -128, -128},
        {-129, 127, -129, -129}, {-256, 0, -256, -256}, {32767, -1, 32767, 32767}, {32768, 0, -32768, 32768},
        {32769, 1, -32767, 32769}, {65535, -1, -1, 65535}, {65536, 0, 0, 65536}, {65537, 1, 1, 65537},
        {-32768, 0, -32768, -32768}, {-32769, -1, 32767, -32769}, {HIGH, -1, -1, HIGH}, {LOW, 0, 0, LOW},
        {HIGH - 128, 127, -129, HIGH - 128}};
    for (long[] t : told) {
      for (int sort = 0; sort < 3; sort++) {
        GearTeeth x = new GearTeeth();
        x.row(0, sort, 2);
        due("put " + t[0], x.put(0, 1, (int) t[0]), 0);
        due("element, sort " + sort + ", " + t[0], x.element(0, 1), t[1 + sort]);
        due("the other", x.element(0, 0), 0);
      }
    }
  }

  private static GearTeeth counted(int d, int sort, int n, GearTeeth x) {
    x.row(d, sort, n);
    for (int i = 0; i < n; i++) {
      x.put(d, i, i + 1);
    }
    return x;
  }

  /** The greatest n that there is, and one more. */
  private static void copiesOfAll() {
    GearTeeth x = counted(0, 0, 120, new GearTeeth());
    x.row(1, 0, 120);
    due("121", x.copy(0, 0, 1, 0, 121), -13);
    due("120 from 1 on", x.copy(0, 1, 1, 0, 120), -13);
    due("120 to 1", x.copy(0, 0, 1, 1, 120), -13);
    due("nothing came", x.element(1, 0), 0);
    due("120", x.copy(0, 0, 1, 0, 120), 120);
    due("the first", x.element(1, 0), 1);
    due("the last", x.element(1, 119), 120);
    due("the last to the first", x.copy(0, 119, 1, 0, 1), 1);
    due("the first is", x.element(1, 0), 120);
    due("the second isn't", x.element(1, 1), 2);
    due("the first to the last", x.copy(0, 0, 1, 119, 1), 1);
    due("the last is", x.element(1, 119), 1);
    due("the last but one isn't", x.element(1, 118), 119);
    due("from the last, two", x.copy(0, 119, 1, 0, 2), -13);
    due("to the last, two", x.copy(0, 0, 1, 119, 2), -13);
    due("from behind the last", x.copy(0, 120, 1, 0, 1), -13);
    due("to behind the last", x.copy(0, 0, 1, 120, 1), -13);
    due("from ahead of the first", x.copy(0, -1, 1, 0, 1), -13);
    due("to ahead of the first", x.copy(0, 0, 1, -1, 1), -13);
    for (int i = 0; i < 120; i++) {
      due("what is taken stays, " + i, x.element(0, i), i + 1);
    }
  }

  /** n 0 has a place at the end of a ROW, and none behind it; n below 0 is none that is there. */
  private static void copiesOfNone() {
    GearTeeth x = counted(1, 2, 3, counted(0, 2, 5, new GearTeeth()));
    x.row(2, 2, 0);
    due("none at the starts", x.copy(0, 0, 1, 0, 0), 0);
    due("none at the ends", x.copy(0, 5, 1, 3, 0), 0);
    due("none of none", x.copy(2, 0, 2, 0, 0), 0);
    due("none of none to the end", x.copy(2, 0, 1, 3, 0), 0);
    due("one of none", x.copy(2, 0, 1, 0, 1), -13);
    due("one to none", x.copy(0, 0, 2, 0, 1), -13);
    due("none behind the end", x.copy(0, 6, 1, 0, 0), -13);
    due("none to behind the end", x.copy(0, 0, 1, 4, 0), -13);
    due("none ahead of the start", x.copy(0, -1, 1, 0, 0), -13);
    due("none to ahead of the start", x.copy(0, 0, 1, -1, 0), -13);
    due("below 0", x.copy(0, 1, 1, 1, -1), -13);
    due("far below 0", x.copy(0, 1, 1, 1, LOW), -13);
    due("far above", x.copy(0, 1, 1, 1, HIGH), -13);
    due("from far", x.copy(0, HIGH, 1, 0, 1), -13);
    due("to far", x.copy(0, 0, 1, HIGH, 1), -13);
    due("to far", x.copy(0, 0, 1, HIGH, HIGH), -13);
    due("from far below", x.copy(0, LOW, 1, 0, 1), -13);
    for (int i = 0; i < 3; i++) {
      due("as it was " + i, x.element(1, i), i + 1);
    }
  }

  /** From a ROW to itself all come as they were ahead of the call. */
  private static void copiesOntoThemselves() {
    for (int from = 0; from <= 6; from++) {
      for (int to = 0; to <= 6; to++) {
        int n = 6 - Math.max(from, to);
        GearTeeth x = counted(0, 1, 6, new GearTeeth());
        due("one too many", x.copy(0, from, 0, to, n + 1), -13);
        due("from " + from + " to " + to, x.copy(0, from, 0, to, n), n);
        for (int i = 0; i < 6; i++) {
          boolean came = i >= to && i < to + n;
          due("from " + from + " to " + to + ": " + i, x.element(0, i), came ? i - to + from + 1 : i + 1);
        }
      }
    }
  }

  /** "-12 (no ROWS of one SORT)", and the greatest and least that a SORT holds come as they are. */
  private static void copiesBySort() {
    int[] most = {127, 32767, HIGH};
    int[] least = {-128, -32768, LOW};
    for (int sort = 0; sort < 3; sort++) {
      for (int other = 0; other < 3; other++) {
        GearTeeth x = new GearTeeth();
        Check.fill(x, 0, sort, most[sort], least[sort]);
        x.row(1, other, 2);
        due("copy of sort " + sort + " to " + other, x.copy(0, 0, 1, 0, 2), sort == other ? 2 : -12);
        due("the most", x.element(1, 0), sort == other ? most[sort] : 0);
        due("the least", x.element(1, 1), sort == other ? least[sort] : 0);
      }
    }
  }

  /** "100, TEETH and HARD; of WHEELS and what is under them THIN more; of PLANETS twice all that; of RINGS TOP". */
  private static void weights() {
    int[][] told = {{0, 4, 114}, {0, 99, 209}, {1, 4, 155}, {1, 99, 250}, {2, 4, 140}, {2, 99, 235}, {3, 4, 320},
        {3, 99, 510}, {4, 4, 145}, {4, 9, 150}, {4, 10, 152}, {4, 99, 249}};
    for (int[] t : told) {
      GearTeeth x = Check.plant("g" + t[0] + " " + t[1] + " 0;");
      x.keep(0, 1, 0);
      due("weight of kind " + t[0] + " with " + t[1], x.weight(0), t[2]);
    }
  }

  private static GearTeeth thinAt(int kind, int y, int width) {
    GearTeeth x = Check.plant("g0 9 0;g" + kind + " 9 1;");
    Bench.flank(x, 1, Bench.bump(Math.min(width + 1, 31), y, width));
    due("keep", x.keep(0, 1, 1), 0);
    return x;
  }

  /** THIN at any y counts for WHEELS, TOP at y 15 alone for RINGS, neither for GEARS. */
  private static void weightsByTheFlank() {
    for (int y = 0; y < 16; y++) {
      for (int width : new int[] {0, 20, 30}) {
        due("gear", thinAt(0, y, width).weight(0), 119);
        due("wheel", thinAt(1, y, width).weight(0), 129 + width);
        due("cracked", thinAt(2, y, width).weight(0), 114 + width);
        due("planet", thinAt(3, y, width).weight(0), 2 * (134 + width));
        due("ring", thinAt(4, y, width).weight(0), 119 + (y == 15 ? width : width + 1));
      }
    }
  }

  /** "its number; of CRACKED ones 100 and THIN more": from the first GEAR to the last. */
  private static void tosses() {
    for (int kind = 0; kind <= 4; kind++) {
      StringBuilder text = new StringBuilder();
      for (int i = 0; i < 12; i++) {
        text.append('g').append(kind).append(" 9 0;");
      }
      GearTeeth x = Check.plant(text.toString());
      for (int gear = 0; gear < 12; gear++) {
        x.keep(0, 1, gear);
        due("toss of kind " + kind + ", " + gear, x.toss(0), kind >= 3 ? -15 : kind == 2 ? gear + 131 : gear);
        due("and again", x.toss(0), kind >= 3 ? -15 : kind == 2 ? gear + 131 : gear);
      }
    }
  }

  /** "RINGS, and PLANETS with THIN 31, have none". */
  private static void tossesByTheFlank() {
    for (int y = 0; y < 16; y++) {
      for (int width : new int[] {0, 1, 30}) {
        due("gear", thinAt(0, y, width).toss(0), 1);
        due("wheel", thinAt(1, y, width).toss(0), 1);
        due("cracked", thinAt(2, y, width).toss(0), 101 + width);
        due("planet", thinAt(3, y, width).toss(0), 1);
        due("ring", thinAt(4, y, width).toss(0), -15);
      }
    }
    due("planet, 31", thinAt(3, 0, 31).toss(0), -15);
    due("cracked, 31", thinAt(2, 0, 31).toss(0), 132);
    due("ring, 31", thinAt(4, 0, 31).toss(0), -15);
    due("wheel, 31", thinAt(1, 0, 31).toss(0), 1);
  }
}
