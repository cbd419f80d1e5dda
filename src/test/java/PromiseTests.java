/** For each promise of the document: ordinary inputs, the edges that it names, and wrong inputs. */
public final class PromiseTests {
  private static final int[] CUTTER = {9, 8, 7, 5, 3, 2, 1, 0, 0, 1, 2, 3, 5, 7, 8, 9};
  private static final int[] FLAT = new int[16];
  /** In 2 STEPS with SHIFT 0 it leaves WIDTH 29 at y 3, and 21 at all others. */
  private static final int[] BUMP = {10, 10, 10, 0, 10, 10, 10, 10, 10, 10, 10, 10, 10, 10, 10, 10};
  private static final int FAR = -1000000000;
  private static final int LOW = Integer.MIN_VALUE;
  private static final int HIGH = Integer.MAX_VALUE;

  /** The numbers are those of the promises. */
  public static void main(String[] args) {
    newObject(); // 1
    textsThatAreRead(); // 2
    textsWithFaultsOfKindOne(); // 2
    textsWithFaultsOfKindTwo(); // 2
    textsRoom(); // 2
    textRefusals(); // 2
    gears(); // 3
    widthsAndMeshes(); // 4, 5
    locked(); // 6
    speeds(); // 7
    hunts(); // 8
    planets(); // 9, 10
    cutting(); // 11
    cutRefusals(); // 11
    rolling(); // 12 to 16
    oneTurnIsOff(); // 12 to 16
    rollingOfTwo(); // 12 to 16, 21
    rooms(); // 17
    wearing(); // 18, 19
    tones(); // 20, 21
    loads(); // 22 to 26
    ruleFaults(); // 27, 28
    rulesKept(); // 28
    rulesHold(); // 29
    watching(); // 30
    ears(); // 31
    bestShifts(); // 32
    readBacks(); // 33
    images(); // 34, 35
    counts(); // 36
    keeping(); // 37
    rows(); // 38, 39
    elements(); // 40
    copies(); // 41
    weights(); // 42
    tosses(); // 43
    Check.end();
  }

  private static void due(String call, long got, long want) {
    Check.due(call, got, want);
  }

  private static String times(String text, int n) {
    StringBuilder all = new StringBuilder();
    for (int i = 0; i < n; i++) {
      all.append(text);
    }
    return all.toString();
  }

  private static void newObject() {
    GearTeeth x = new GearTeeth();
    for (int what = 0; what < 6; what++) {
      due("new: count " + what, x.count(what), 0);
    }
    due("new: turned", x.count(6), 1);
    due("new: gear", x.gear(0, 0), -1);
    due("new: mesh", x.mesh(0, 0), -1);
    due("new: holds", x.holds(0, 0), -1);
    due("new: clear", x.clear(), 0);
    due("new: locked", x.locked(), 0);
    due("new: restore", x.restore(), -3);
    for (int d = 0; d < 8; d++) {
      due("new: shelf", x.weight(d), -11);
    }
  }

  private static void textsThatAreRead() {
    GearTeeth x = new GearTeeth();
    due("one", Check.say(x, "g0 4 0;"), 1);
    due("least and most", Check.say(x, "g4 99 7;m0 1;d1 0 0;"), 3);
    due("kind", x.gear(1, 0), 4);
    due("teeth", x.gear(1, 1), 99);
    due("shaft", x.gear(1, 2), 7);
    due("room", x.mesh(0, 2), 0);
    due("the row stays", x.element(7, 0), 'g');
    due("again", Check.say(x, "d0 1 62;d1 0 61;d0 1 60;"), 3);
    due("the last room", x.mesh(0, 2), 60);
    due("room of a new mesh", Check.say(x, "g0 9 1;m2 0;"), 2);
    due("room of a new mesh", x.mesh(1, 2), 62);
    Check.fill(x, 3, 0, 256 + 'g', '0' - 256, ' ', '9', ' ', '1', ';' + 512);
    due("lowest bits", x.text(3), 1);
  }

  private static void textsWithFaultsOfKindOne() {
    String[] texts = {"", "x", "g", "g ", "g1", "g1 ", "g1  ", "g00", "g010", "g100", "g1 20", "g1 20 0",
        "g1 20;", "g1 20 0 ", "m0 1 ", "m0;", "d0 1;", "d0 1 62", "d0 1 623", "g1 20 0;;", "g1 20 0; g",
        "g-1", "G1", "g1 20 0;g", "m", "d", "g1,", "g5 20 0;x", "g0 0 0;g0 04 0;", "g1 20 0;\n"};
    int[] places = {0, 0, 1, 1, 2, 3, 3, 2, 2, 3, 5, 7,
        5, 7, 4, 2, 4, 7, 7, 8, 8,
        1, 0, 9, 1, 1, 2, 8, 11, 8};
    for (int i = 0; i < texts.length; i++) {
      GearTeeth x = new GearTeeth();
      due("text <" + texts[i] + ">", Check.say(x, texts[i]), -1000 - places[i]);
      due("nothing came", x.count(0), 0);
    }
    GearTeeth x = new GearTeeth();
    Check.fill(x, 7, 0, 'g', -1);
    due("a byte below 0", x.text(7), -1001);
  }

  private static void textsWithFaultsOfKindTwo() {
    String two = "g0 9 0;g0 9 1;";
    String[] texts = {"g5 20 0;", "g10 20 0;", "g0 3 0;", "g0 0 0;", "g0 20 8;", "g0 20 99;", "m0 1;", "d0 1 9;",
        "g0 9 0;m0 1;", "g0 9 0;m1 0;", "g0 9 0;m0 0;", "g4 9 0;g4 9 1;m0 1;", two + "m0 1;m0 1;",
        two + "m0 1;m1 0;", two + "d0 1 9;", two + "m0 1;d0 1 63;", two + "m0 1;d0 0 1;", two + "m0 2;g0 9 2;",
        "g0 9 0;g5 9 0;g6 9 0;", two + "m0 1;d0 2 5;", two + "m2 99;"};
    int[] places = {0, 0, 0, 0, 0, 0, 0, 0,
        7, 7, 7, 14, 19,
        19, 14, 19, 19, 14,
        7, 19, 14};
    for (int i = 0; i < texts.length; i++) {
      GearTeeth x = new GearTeeth();
      due("text <" + texts[i] + ">", Check.say(x, texts[i]), -2000 - places[i]);
      due("nothing came", x.count(0), 0);
    }
    GearTeeth x = Check.plant("g0 9 0;g0 9 1;m0 1;d0 1 7;");
    due("a later fault", Check.say(x, "d0 1 8;g0 9 2;m0 2;m0 3;"), -2019);
    due("the room is as it was", x.mesh(0, 2), 7);
    due("the gears", x.count(0), 2);
    due("the meshes", x.count(1), 1);
    due("a mesh from ahead", Check.say(x, "m1 0;"), -2000);
    due("a ring with a gear", Check.say(x, "g4 9 2;m2 0;m1 2;"), 3);
  }

  private static void textsRoom() {
    GearTeeth x = new GearTeeth();
    due("13 gears", Check.say(x, times("g0 9 0;", 13)), -2084);
    due("12 gears", Check.say(x, times("g0 9 0;", 12)), 12);
    due("a 13th", Check.say(x, "g0 9 0;"), -2000);
    String meshes = "m0 1;m0 2;m0 3;m0 4;m0 5;m0 6;m0 7;m0 8;m0 9;m0 10;m0 11;m1 2;m1 3;m1 4;m1 5;";
    due("17 meshes", Check.say(x, meshes + "m11 2;m11 3;"), -2000 - meshes.length() - 6);
    due("16 meshes", Check.say(x, meshes + "m11 2;"), 16);
    due("a 17th", Check.say(x, "m11 3;"), -2000);
    due("rooms still", Check.say(x, "d2 11 5;"), 1);
    due("the last", x.mesh(15, 0), 11);
    due("its room", x.mesh(15, 2), 5);
  }

  private static void textRefusals() {
    GearTeeth x = Check.plant("g0 9 0;");
    due("text", x.text(-1), -1);
    due("text", x.text(8), -1);
    due("text", x.text(0), -11);
    x.keep(0, 1, 0);
    due("text", x.text(0), -12);
    x.row(0, 1, 7);
    due("text of shorts", x.text(0), -12);
    x.row(0, 2, 7);
    due("text of ints", x.text(0), -12);
  }

  private static void gears() {
    GearTeeth x = Check.plant("g0 9 1;g1 10 2;g2 11 3;g3 12 4;g4 39 5;g4 99 6;g4 40 7;");
    int[][] told = {{0, 9, 1, 10, 8}, {1, 10, 2, 20, 12}, {2, 11, 3, 5, 6}, {3, 12, 4, 25, 12},
        {4, 39, 5, 13, 16}, {4, 99, 6, 19, 16}, {4, 40, 7, 14, 16}};
    for (int gear = 0; gear < told.length; gear++) {
      for (int what = 0; what < 5; what++) {
        due("gear " + gear + " " + what, x.gear(gear, what), told[gear][what]);
      }
      due("thin", x.gear(gear, 5), 31);
      due("top", x.gear(gear, 6), 31);
      due("undercut", x.gear(gear, 7), -4);
    }
    int[][] wrong = {{-1, 0}, {7, 0}, {0, -1}, {0, 8}, {LOW, 0}, {HIGH, 0}, {0, LOW}, {0, HIGH}};
    for (int[] w : wrong) {
      due("gear, wrong", x.gear(w[0], w[1]), -1);
    }
  }

  private static void widthsAndMeshes() {
    GearTeeth x = Check.plant("g0 9 1;g1 10 2;g0 9 3;m2 0;m1 2;d0 2 3;");
    for (int y = 0; y < 16; y++) {
      due("width", x.width(1, y), 31);
    }
    int[][] wrong = {{-1, 0}, {3, 0}, {0, -1}, {0, 16}, {HIGH, LOW}};
    for (int[] w : wrong) {
      due("width, wrong", x.width(w[0], w[1]), -1);
    }
    int[][] meshes = {{2, 0, 3}, {1, 2, 62}};
    for (int i = 0; i < 2; i++) {
      for (int what = 0; what < 3; what++) {
        due("mesh", x.mesh(i, what), meshes[i][what]);
      }
    }
    due("mesh, wrong", x.mesh(2, 0), -1);
    due("mesh, wrong", x.mesh(-1, 0), -1);
    due("mesh, wrong", x.mesh(0, 3), -1);
    due("mesh, wrong", x.mesh(0, -1), -1);
  }

  private static void locked() {
    due("none", new GearTeeth().locked(), 0);
    due("a train", Check.plant("g0 9 0;g0 10 1;g0 11 2;m0 1;m1 2;").locked(), 0);
    due("three in a ring", Check.plant("g0 9 0;g0 10 1;g0 11 2;m0 1;m1 2;m2 0;").locked(), 1);
    due("four in a ring", Check.plant("g0 9 0;g0 10 1;g0 11 2;g0 8 3;m0 1;m1 2;m2 3;m3 0;").locked(), 0);
    due("three, one of them a ring", Check.plant("g0 9 0;g4 90 1;g0 11 2;m0 1;m1 2;m2 0;").locked(), 1);
    due("on one shaft", Check.plant("g0 9 0;g0 9 0;m0 1;").locked(), 1);
    due("ring on one shaft", Check.plant("g4 9 0;g0 9 0;m0 1;").locked(), 0);
    due("ring, other teeth", Check.plant("g4 9 0;g0 8 0;m0 1;").locked(), 1);
    due("away from shaft 0", Check.plant("g0 9 3;g0 9 3;m0 1;").locked(), 0);
    due("two ways, one speed", Check.plant("g0 9 0;g0 18 1;g0 7 0;g0 14 1;m0 1;m2 3;").locked(), 0);
    due("two ways, two speeds", Check.plant("g0 9 0;g0 18 1;g0 7 0;g0 15 1;m0 1;m2 3;").locked(), 1);
  }

  private static void speeds() {
    GearTeeth x = Check.plant("g0 20 0;g0 30 1;g4 60 2;g0 20 3;g0 9 4;g0 9 4;m0 1;m2 1;m4 5;");
    long[][] told = {{1, 1}, {-2, 3}, {-1, 3}, {FAR - 4, FAR - 4}, {0, 1}, {FAR - 4, FAR - 4}};
    for (int shaft = 0; shaft < told.length; shaft++) {
      due("speed, above " + shaft, x.speed(shaft, 0), told[shaft][0]);
      due("speed, below " + shaft, x.speed(shaft, 1), told[shaft][1]);
    }
    due("turned", x.count(6), 4);
    due("speed, wrong", x.speed(-1, 0), FAR - 1);
    due("speed, wrong", x.speed(8, 0), FAR - 1);
    due("speed, wrong", x.speed(0, 2), FAR - 1);
    due("speed, wrong", x.speed(0, -1), FAR - 1);
    due("hangs on nothing", Check.say(x, "g0 11 5;g0 12 6;m6 7;"), 3);
    due("free", x.speed(6, 0), FAR - 4);
    due("locks", Check.say(x, "m0 2;"), 1);
    due("locked", x.speed(1, 0), FAR - 3);
    due("locked, shaft 0", x.speed(0, 0), FAR - 3);
    due("locked, free", x.speed(6, 1), FAR - 3);
    due("locked, wrong", x.speed(8, 1), FAR - 1);
    due("locked: turned", x.count(6), 0);
    String far = "g0 99 0;g0 4 1;g0 97 1;g0 4 2;g0 99 2;g0 4 3;g0 97 3;g0 4 4;g0 99 4;g0 5 5;";
    GearTeeth row = Check.plant("g0 4 0;g0 5 1;g0 6 2;g0 7 3;g0 8 4;g0 9 5;g0 10 6;g0 12 7;");
    due("told from the far end on", Check.say(row, "m6 7;m5 6;m4 5;m3 4;m2 3;m1 2;m0 1;"), 7);
    due("the far end, above", row.speed(7, 0), -1);
    due("the far end, below", row.speed(7, 1), 3);
    GearTeeth y = Check.plant(far + "m0 1;m2 3;m4 5;m6 7;m8 9;");
    due("far, above", y.speed(5, 0), -99L * 97 * 99 * 97 * 99);
    due("far, below", y.speed(5, 1), 4L * 4 * 4 * 4 * 5);
  }

  private static void hunts() {
    GearTeeth x = Check.plant("g0 20 0;g0 30 1;g4 20 2;g0 7 3;g0 99 4;");
    int[][] told = {{0, 1, 3, 27}, {1, 0, 2, 18}, {0, 2, 1, 19}, {0, 3, 7, 0}, {3, 0, 20, 0}, {4, 1, 10, 20}};
    for (int[] t : told) {
      due("hunt", x.hunt(t[0], t[1], 0), t[2]);
      due("missed", x.hunt(t[0], t[1], 1), t[3]);
    }
    int[][] wrong = {{0, 0, 0}, {-1, 0, 0}, {0, -1, 0}, {5, 0, 0}, {0, 5, 0}, {0, 1, 2}, {0, 1, -1}};
    for (int[] w : wrong) {
      due("hunt, wrong", x.hunt(w[0], w[1], w[2]), -1);
    }
  }

  private static void planets() {
    GearTeeth x = new GearTeeth();
    int[][] told = {{20, 60, 4, 20}, {20, 60, 5, 20}, {20, 60, 8, -4}, {20, 60, 3, -4}, {20, 61, 3, -4},
        {4, 12, 1, 4}, {4, 10, 1, -4}, {4, 12, 4, 4}, {60, 20, 2, -4}, {99, 99, 1, -4},
        {4, 98, 2, 47}, {4, 98, 3, 47}, {20, 28, 12, 4}, {20, 28, 11, -4}, {19, 29, 12, -4},
        {4, 98, 6, -4}, {90, 98, 4, 4}, {12, 24, 4, 6}, {12, 24, 6, 6}};
    for (int[] t : told) {
      due("planets " + t[0] + " " + t[1] + " " + t[2], x.planets(t[0], t[1], t[2]), t[3]);
    }
    int[][] wrong = {{3, 20, 1}, {100, 20, 1}, {20, 3, 1}, {20, 100, 1}, {20, 60, 0}, {20, 60, 13}, {LOW, HIGH, 1}};
    for (int[] w : wrong) {
      due("planets, wrong", x.planets(w[0], w[1], w[2]), -1);
    }
    int[][] most = {{20, 28, 12}, {19, 29, 8}, {20, 60, 5}, {60, 20, -4}, {20, 61, -4},
        {4, 98, 3}, {12, 24, 6}, {90, 98, 4}, {92, 98, -4}, {88, 98, 6},
        {3, 60, -1}, {20, 100, -1}, {100, 60, -1}, {20, 3, -1}};
    for (int[] t : most) {
      due("most " + t[0] + " " + t[1], x.most(t[0], t[1]), t[2]);
    }
  }

  private static void cutting() {
    GearTeeth x = Check.plant("g0 9 0;g0 9 1;");
    Check.fill(x, 0, 0, FLAT);
    due("flat, most", x.cut(0, 0, 216), 23);
    due("flat, least: cut anew", x.cut(0, 0, 200), 31);
    due("flat, thirds", x.cut(0, 0, 313), 26);
    for (int y = 0; y < 16; y++) {
      due("flat, thirds " + y, x.width(0, y), y < 2 ? 27 : 26);
    }
    due("no undercut", x.gear(0, 7), -4);
    due("the other is as it was", x.gear(1, 5), 31);
    Check.fill(x, 1, 0, 31, 31, 31, 31, 31, 31, 31, 31, 31, 31, 31, 31, 31, 31, 31, 31);
    due("0 at least", x.cut(0, 1, 216), 0);
    Check.fill(x, 2, 0, 10, 0, 0, 0, 0, 0, 0, 0, 0, 0, 0, 0, 0, 0, 0, 0);
    due("thin", x.cut(0, 2, 208), 21);
    due("at the root", x.width(0, 0), 21);
    due("thin at the root isn't undercut", x.gear(0, 7), -4);
    Check.fill(x, 2, 0, 0, 0, 0, 10, 0, 0, 0, 0, 0, 0, 0, 0, 0, 0, 0, 12);
    due("thin", x.cut(0, 2, 208), 19);
    due("undercut", x.gear(0, 7), 3);
    due("top", x.gear(0, 6), 19);
    due("one step", x.cut(0, 2, 108), 27);
    due("one step", x.width(0, 7), 27);
    due("one step", x.gear(0, 6), 31);
    Check.fill(x, 2, 0, CUTTER);
    due("32 steps", x.cut(0, 2, 3208), 22);
    int[] widths = new int[16];
    for (int y = 0; y < 16; y++) {
      widths[y] = x.width(0, y);
    }
    due("16 steps", x.cut(0, 2, 1608), 22);
    for (int y = 0; y < 16; y++) {
      due("16 steps as 32", x.width(0, y), widths[y]);
    }
    Check.fill(x, 2, 0, 20, 10, 12, 9, 0, 0, 0, 0, 0, 0, 0, 0, 0, 0, 0, 0);
    due("ahead of the first rise nothing is wider", x.cut(0, 2, 208), 11);
    due("undercut behind a rise", x.gear(0, 7), 2);
  }

  private static void cutRefusals() {
    GearTeeth x = Check.plant("g0 9 0;");
    Check.fill(x, 0, 0, CUTTER);
    int[][] wrong = {{-1, 0, 108}, {1, 0, 108}, {0, -1, 108}, {0, 8, 108}, {0, 0, 8}, {0, 0, 117}, {0, 0, 199},
        {0, 0, 3300}, {0, 0, 3217}, {0, 0, -108}, {0, 0, -1}, {0, 0, LOW}, {0, 0, HIGH}, {0, 1, 8}};
    for (int[] w : wrong) {
      due("cut, wrong", x.cut(w[0], w[1], w[2]), -1);
    }
    due("least told", x.cut(0, 0, 100), 31);
    due("most told", x.cut(0, 0, 3216), 14);
    due("nothing", x.cut(0, 1, 108), -11);
    x.keep(1, 1, 0);
    due("a gear", x.cut(0, 1, 108), -12);
    x.row(1, 1, 16);
    due("shorts", x.cut(0, 1, 108), -12);
    x.row(1, 0, 15);
    due("15", x.cut(0, 1, 108), -13);
    x.row(1, 0, 17);
    due("17", x.cut(0, 1, 108), -13);
    x.row(1, 0, 16);
    x.put(1, 15, 32);
    due("32", x.cut(0, 1, 108), -13);
    x.put(1, 15, -1);
    due("-1", x.cut(0, 1, 108), -13);
    due("refused calls change nothing", x.gear(0, 5), 14);
    x.put(1, 15, 31);
    due("31", x.cut(0, 1, 108), 8);
  }

  /** Two GEARS with a bump at y 3 each: the bumps meet at TURN 7. */
  private static GearTeeth bumps() {
    GearTeeth x = Check.plant("g0 9 0;g1 9 1;m0 1;");
    Check.fill(x, 0, 0, BUMP);
    due("bump", x.cut(0, 0, 208), 21);
    due("bump", x.cut(1, 0, 208), 21);
    due("bump", x.width(1, 3), 29);
    return x;
  }

  private static void rolling() {
    GearTeeth x = bumps();
    int[] touches = {3, 3, 3, 3, 0, 1, 2, 3, 3, 3, 3, 3, 3, 3, 3, 3};
    for (int turn = 0; turn < 16; turn++) {
      due("off " + turn, x.off(0, turn), turn == 7 ? 4 : 12);
      due("touch " + turn, x.touch(0, turn), touches[turn]);
    }
    due("jam", x.jam(0), -4);
    due("gap", x.gap(0), 4);
    due("even", x.even(0), 8);
    x.room(0, 58);
    due("no jam", x.jam(0), -4);
    due("gap 0", x.gap(0), 0);
    x.room(0, 57);
    due("jam", x.jam(0), 7);
    due("off below 0", x.off(0, 7), -1);
    due("gap below 0", x.gap(0), -1);
    x.room(0, 0);
    due("jam", x.jam(0), 0);
    due("gap", x.gap(0), -58);
    due("even", x.even(0), 8);
    for (int mesh : new int[] {-1, 1, LOW, HIGH}) {
      due("off, wrong", x.off(mesh, 0), FAR - 1);
      due("touch, wrong", x.touch(mesh, 0), -1);
      due("jam, wrong", x.jam(mesh), -1);
      due("gap, wrong", x.gap(mesh), FAR - 1);
      due("even, wrong", x.even(mesh), -1);
      due("whine, wrong", x.whine(mesh), -1);
      due("loud, wrong", x.loud(mesh, 0), -1);
    }
    for (int turn : new int[] {-1, 16, LOW, HIGH}) {
      due("off, wrong", x.off(0, turn), FAR - 1);
      due("touch, wrong", x.touch(0, turn), -1);
    }
  }

  /** One TURN has another OFF than all others: each TURN once the greatest, once the least. */
  private static void oneTurnIsOff() {
    for (int y = 0; y < 16; y++) {
      GearTeeth x = bumps();
      int turn = (y + 4) % 16;
      int[] reaches = new int[16];
      reaches[y] = 10;
      Check.fill(x, 1, 0, reaches);
      due("thin at " + y, x.cut(1, 1, 208), 21);
      for (int t = 0; t < 16; t++) {
        due("off " + y + " at " + t, x.off(0, t), t == turn ? 10 : t == (turn + 8) % 16 && y >= 8 ? 4 : 2);
      }
      due("even, one is the greatest", x.even(0), 8);
      java.util.Arrays.fill(reaches, 10);
      reaches[y] = 0;
      Check.fill(x, 1, 0, reaches);
      x.cut(1, 1, 208);
      due("gap, one is the least", x.gap(0), y < 8 ? 4 : 2);
      due("even, one is the least", x.even(0), 8);
      x.room(0, 57);
      due("jam at one", x.jam(0), turn);
    }
  }

  /** Each call by itself, behind a call for another MESH. */
  private static void rollingOfTwo() {
    GearTeeth x = Check.plant("g0 9 0;g1 9 1;g0 9 2;m2 1;m0 1;d1 2 50;d0 1 55;");
    Check.fill(x, 0, 0, BUMP);
    x.cut(0, 0, 208);
    x.cut(1, 0, 208);
    int[][] told = {{-10, 0, 0, -10, 0, 1}, {5, 0, 7, -3, 8, 1}};
    for (int what = 0; what < 6; what++) {
      for (int mesh = 0; mesh < 2; mesh++) {
        due("of mesh " + mesh + ", " + what, asked(x, mesh, what), told[mesh][what]);
      }
    }
  }

  private static int asked(GearTeeth x, int mesh, int what) {
    switch (what) {
      case 0: return x.off(mesh, 4);
      case 1: return x.touch(mesh, 4);
      case 2: return x.jam(mesh);
      case 3: return x.gap(mesh);
      case 4: return x.even(mesh);
      default: return x.whine(mesh);
    }
  }

  private static void rooms() {
    GearTeeth x = Check.plant("g0 9 0;g1 9 1;m0 1;");
    due("room", x.room(0, 0), 62);
    due("room", x.room(0, 62), 0);
    due("room, wrong", x.room(0, 63), -1);
    due("room, wrong", x.room(0, -1), -1);
    due("room, wrong", x.room(1, 5), -1);
    due("room, wrong", x.room(-1, 5), -1);
    due("room", x.room(0, 5), 62);
    due("mesh", x.mesh(0, 2), 5);
  }

  private static void wearing() {
    GearTeeth x = bumps();
    due("too hard", x.wear(0, 109, 100), 8);
    due("until, too hard", x.until(0, 109, 8), 1);
    due("until, never", x.until(0, 109, 9), -4);
    due("until changes nothing", x.until(0, 999, 62), -4);
    due("a as it was", x.width(0, 3), 29);
    due("one round", x.wear(0, 110, 1), 7);
    for (int y = 0; y < 16; y++) {
      due("worn a " + y, x.width(0, y), y == 3 ? 27 : y == 12 ? 21 : 20);
      due("b is harder " + y, x.width(1, y), y == 3 ? 29 : 21);
    }
    GearTeeth y = Check.plant("g1 9 0;g0 9 1;m0 1;");
    due("flat", y.wear(0, 200, 2), 0);
    due("a is too hard", y.gear(0, 5), 31);
    GearTeeth z = Check.plant("g0 9 0;g0 9 1;m0 1;");
    due("to nothing", z.wear(0, 999, 100), z.even(0));
    due("and on", z.wear(0, 999, 100), z.even(0));
    due("0 at least", z.gear(0, 5) >= 0 && z.gear(1, 5) >= 0 ? 1 : 0, 1);
    int[][] wrong = {{-1, 10, 1}, {1, 10, 1}, {0, 0, 1}, {0, 1000, 1}, {0, 10, 0}, {0, 10, -1}};
    for (int[] w : wrong) {
      due("wear, wrong", x.wear(w[0], w[1], w[2]), -1);
      due("until, wrong", x.until(w[0], w[1], w[2]), -1);
    }
    due("wear, wrong", x.wear(0, 1, 101), -1);
    due("until, wrong", x.until(0, 1, 63), -1);
    due("wear, most", x.wear(0, 1, 100), 7);
    due("until, most", x.until(0, 1, 62), -4);
    due("until, least", x.until(0, 1, 1), 1);
  }

  private static void tones() {
    GearTeeth x = bumps();
    int[] louds = {33856, 64, 63, 64, 64, 64, 63, 64, 64};
    for (int k = 0; k <= 8; k++) {
      due("loud " + k, x.loud(0, k), louds[k]);
    }
    due("whine", x.whine(0), 1);
    due("loud, wrong", x.loud(0, -1), -1);
    due("loud, wrong", x.loud(0, 9), -1);
    GearTeeth flat = Check.plant("g0 9 0;g1 9 1;m0 1;");
    due("none is loudest: the first", flat.whine(0), 1);
    Check.fill(flat, 0, 0, 10, 10, 0, 0, 10, 10, 0, 0, 10, 10, 0, 0, 10, 10, 0, 0);
    flat.cut(0, 0, 208);
    flat.cut(1, 0, 208);
    due("four times a turn", flat.whine(0), 4);
    due("loud", flat.loud(0, 4) > 0 ? 1 : 0, 1);
    due("silent", flat.loud(0, 3), 0);
    int[] reaches = new int[16];
    for (int k = 1; k <= 8; k *= 2) {
      GearTeeth waves = bumps();
      for (int y = 0; y < 16; y++) {
        reaches[y] = y / (8 / k) % 2 == 0 ? 0 : 10;
      }
      Check.fill(waves, 1, 0, reaches);
      waves.cut(1, 1, 208);
      due("even, " + k + " times a turn", waves.even(0), 8);
      due("whine, " + k + " times a turn", waves.whine(0), k);
    }
  }

  private static void loads() {
    GearTeeth x = new GearTeeth();
    due("no load", x.pushed(0), 0);
    due("none", x.pushed(1), -4);
    due("none bear", x.bearing(0), 0);
    due("none bear", x.bearing(1), -3);
    due("pair", x.pair(0, 10), 1);
    due("pair", x.pair(5, 20), 2);
    int[][] pushed = {{0, 0}, {1, 1}, {10, 1}, {11, 2}, {50, 5}, {51, 6}, {80, 6}, {81, 7}, {9999, 337}};
    for (int[] p : pushed) {
      due("pushed " + p[0], x.pushed(p[0]), p[1]);
    }
    due("share", x.share(0, 150), 90);
    due("share", x.share(1, 150), 80);
    due("share", x.share(1, 50), 0);
    due("bearing", x.bearing(0), 0);
    due("bearing", x.bearing(50), 1);
    due("bearing", x.bearing(51), 3);
    due("pushed, wrong", x.pushed(-1), -1);
    due("pushed, wrong", x.pushed(10000), -1);
    due("share, wrong", x.share(2, 1), -1);
    due("share, wrong", x.share(-1, 1), -1);
    due("share, wrong", x.share(0, -1), -1);
    due("share, wrong", x.share(0, 10000), -1);
    due("bearing, wrong", x.bearing(-1), -1);
    due("bearing, wrong", x.bearing(10000), -1);
    int[][] wrong = {{-1, 1}, {100, 1}, {0, 0}, {0, 100}};
    for (int[] w : wrong) {
      due("pair, wrong", x.pair(w[0], w[1]), -1);
    }
    for (int n = 3; n <= 6; n++) {
      due("pair", x.pair(99, 99), n);
    }
    due("no room", x.pair(0, 1), -2);
    due("wrong goes ahead", x.pair(0, 0), -1);
    due("clear", x.clear(), 6);
    due("clear", x.clear(), 0);
    due("share of none", x.share(0, 1), -1);
    x.pair(99, 1);
    due("not so far", x.pushed(9900), 9999);
    due("too far", x.pushed(9901), -4);
    due("share", x.share(0, 9900), 9900);
    due("share", x.share(0, 9901), -3);
    due("share", x.share(1, 9901), -1);
    due("bearing", x.bearing(9901), -3);
  }

  private static void ruleFaults() {
    String[] texts = {"", "e", "e>", "e>1", "e>1|", "e>01", "e>1234", "e>12345", "(e>1", "(e>1)", "(e>1))", "e>1)",
        "!", "!!e=1", "!(e=1)&!g<w", "e=1=2", "e+1-g<2+w-l", "x", "(e)", "(e+1)=2", "e>1 ", "e>1&&e>2", "e+>1",
        "((((((((e=1))))))))", "(((((((((e=1)))))))))", "!(!(!(!(!(!(!(!(e=1))))))))", "(e=1)(", "(e=1)+1",
        "(e=1)&((e=1)|(e=1))", "1<2", "0<0", "00<0", "1>2!", "r=t-u", "e12", "1e", "-1<2", "(((((((((",
        "e=1|(e=2&g=3|t=4)"};
    int[] places = {0, 1, 2, -4, 4, 3, -4, 6, 4, -4, 5, 3,
        1, -4, -4, 3, -4, 0, 2, 4, 3, 4, 2,
        -4, 8, -4, 5, 5,
        -4, -4, -4, 1, 3, -4, 1, 1, 0, 8, -4};
    for (int i = 0; i < texts.length; i++) {
      GearTeeth x = new GearTeeth();
      Check.write(x, 0, texts[i]);
      due("fault <" + texts[i] + ">", x.fault(0), places[i]);
      x = new GearTeeth();
      Check.write(x, 0, texts[i]);
      due("rule <" + texts[i] + ">", x.rule(0), places[i] == -4 ? 0 : -100 - places[i]);
      due("count", x.count(2), places[i] == -4 ? 1 : 0);
    }
    GearTeeth x = Check.plant("g0 9 0;");
    Check.write(x, 0, times("!", 117) + "1=1");
    due("many !", x.fault(0), -4);
    Check.write(x, 0, times("!", 120));
    due("too many !", x.fault(0), 120);
    Check.write(x, 0, times("1=1&", 29) + "1=1");
    due("many &", x.fault(0), -4);
    Check.write(x, 0, times("1+", 58) + "1=1");
    due("many +", x.fault(0), -4);
    due("fault, wrong", x.fault(-1), -1);
    due("fault, wrong", x.fault(8), -1);
    due("fault, nothing", x.fault(1), -11);
    x.keep(1, 1, 0);
    due("fault, a gear", x.fault(1), -12);
    x.row(1, 2, 3);
    due("fault, ints", x.fault(1), -12);
    x.row(1, 0, 3);
    due("fault, bytes", x.fault(1), 0);
  }

  private static void rulesKept() {
    GearTeeth x = Check.plant("g0 9 0;");
    due("rule, wrong", x.rule(-1), -1);
    due("rule, wrong", x.rule(8), -1);
    due("rule, nothing", x.rule(0), -11);
    x.keep(0, 1, 0);
    due("rule, a gear", x.rule(0), -12);
    x.row(0, 1, 3);
    due("rule, shorts", x.rule(0), -12);
    Check.write(x, 0, "1=1");
    for (int n = 0; n < 12; n++) {
      due("rule", x.rule(0), n);
    }
    due("no room", x.rule(0), -2);
    due("no room goes ahead of nothing", x.rule(1), -2);
    due("a wrong shelf goes ahead of no room", x.rule(8), -1);
    due("rules", x.count(2), 12);
  }

  private static void rulesHold() {
    GearTeeth x = bumps();
    x.room(0, 57);
    x.cut(1, 0, 209);
    String[] texts = {"1=1", "1<1", "2>1", "!1=1", "!!1=1", "1=1&1=2", "1=1|1=2", "1=2|1=1&1=1", "1=1|1=1&1=2",
        "(1=1|1=1)&1=2", "!(1=2)", "!(1=1)|1=1", "9-3-2=4", "9-3+2=8", "e=8", "g=0", "0-1=g", "w=1", "l=64", "r=0",
        "t=21", "u=20", "t-u=1", "!1=2&1=1", "1<2&2<3&3<2|1=1", "9999>9998", "1=2&1=1|1=2", "e+g+w+l+r+t+u=114"};
    int[] held = {1, 0, 1, 0, 1, 0, 1, 1, 1,
        0, 1, 1, 1, 1, 1, 1, 0, 1, 1, 1,
        1, 1, 1, 1, 1, 1, 0, 1};
    for (int i = 0; i < texts.length; i++) {
      GearTeeth y = x;
      x.image();
      Check.write(x, 1, texts[i]);
      int rule = y.rule(1);
      due("holds <" + texts[i] + ">", y.holds(rule, 0), held[i]);
      x.restore();
    }
    due("holds, wrong", x.holds(0, 0), -1);
    Check.write(x, 1, "g<0");
    due("rule", x.rule(1), 0);
    Check.write(x, 1, "1=1");
    due("the rule is its own", x.holds(0, 0), 0);
    x.room(0, 50);
    due("g below 0", x.holds(0, 0), 1);
    due("holds, wrong", x.holds(1, 0), -1);
    due("holds, wrong", x.holds(-1, 0), -1);
    due("holds, wrong", x.holds(0, 1), -1);
    due("holds, wrong", x.holds(0, -1), -1);
    loudAtMost();
  }

  /** One tooth's bump against the upper half of another: half of the TURNS touch twice. */
  private static void loudAtMost() {
    GearTeeth x = Check.plant("g0 9 0;g0 9 1;m0 1;");
    Check.fill(x, 0, 0, 31, 31, 31, 31, 31, 31, 31, 31, 31, 31, 31, 31, 0, 31, 31, 31);
    x.cut(0, 0, 208);
    Check.fill(x, 0, 0, 31, 31, 31, 31, 31, 31, 31, 31, 31, 31, 31, 31, 31, 31, 31, 31);
    x.cut(1, 0, 116);
    due("half of the turns", x.off(0, 4), 31);
    due("half of the turns", x.off(0, 5), 0);
    due("half of the turns", x.off(0, 12), 0);
    due("half of the turns", x.off(0, 13), 31);
    due("whine", x.whine(0), 1);
    due("very loud", x.loud(0, 1) > 9999 ? 1 : 0, 1);
    Check.write(x, 1, "l=9999");
    x.rule(1);
    due("9999 at most", x.holds(0, 0), 1);
  }

  private static void watching() {
    GearTeeth x = bumps();
    String[] rules = {"r=0", "r=200", "r>200", "e<8", "t<21", "u<21", "r>5&e<9|r=7"};
    for (int i = 0; i < rules.length; i++) {
      Check.write(x, 1, rules[i]);
      due("rule", x.rule(1), i);
    }
    due("at once", x.watch(0, 0, 1), 0);
    due("at last", x.watch(1, 0, 1), 200);
    due("never", x.watch(2, 0, 999), -4);
    due("less even by one round", x.watch(3, 0, 110), 1);
    due("a thinner", x.watch(4, 0, 110), 1);
    due("b isn't", x.watch(5, 0, 110), -4);
    due("b isn't", x.watch(5, 0, 209), -4);
    due("b is", x.watch(5, 0, 210), 1);
    due("nothing wears", x.watch(6, 0, 1), 6);
    due("nothing changes", x.even(0), 8);
    due("nothing changes", x.gear(0, 5), 21);
    int[][] wrong = {{-1, 0, 1}, {7, 0, 1}, {0, -1, 1}, {0, 1, 1}, {0, 0, 0}, {0, 0, 1000}};
    for (int[] w : wrong) {
      due("watch, wrong", x.watch(w[0], w[1], w[2]), -1);
    }
  }

  private static void heard(GearTeeth x, int[] row, int sets, int blamed, int maybe) {
    Check.fill(x, 1, 0, row);
    due("sets", x.ear(1, 0), sets);
    due("blamed", x.ear(1, 1), blamed);
    due("maybe", x.ear(1, 2), maybe);
  }

  private static void ears() {
    GearTeeth none = new GearTeeth();
    heard(none, new int[] {0, 0, 0}, 1, 0, 0);
    heard(none, new int[] {0, 1, 0}, 0, 0, 0);
    heard(Check.plant("g0 4 0;"), new int[0], 5, 0, 1);
    heard(Check.plant("g0 4 0;g0 4 0;"), new int[0], 25, 0, 3);
    GearTeeth x = Check.plant("g0 4 0;g0 6 1;");
    heard(x, new int[] {0, 0, 0}, 8, 0, 3);
    heard(x, new int[] {1, 0, 0}, 7, 0, 3);
    heard(x, new int[] {0, 1, 0, 0, 0, 1, 0, 0, 0, 1, 0, 0}, 1, 1, 1);
    heard(x, new int[] {0, 1, 1, 0, 0, 1, 0, 0, 1, 1, 0, 0}, 1, 3, 3);
    heard(x, new int[] {1, 1, 1, 0, 0, 1, 0, 0, 1, 1, 0, 0}, 0, 0, 0);
    heard(x, new int[12], 1, 0, 0);
    // the first TICK that is heard is that of the one, of the other, and of both
    heard(x, new int[] {1, 0, 0, 0, 1, 0, 1, 0, 1, 0, 0, 0}, 1, 3, 3);
    heard(x, new int[] {0, 0, 1, 1, 0, 0, 1, 0, 0, 1, 1, 0}, 1, 3, 3);
    heard(x, new int[60], 1, 0, 0);
    x.row(1, 0, 61);
    due("61", x.ear(1, 0), -13);
    Check.fill(x, 1, 0, 0, 2);
    due("2", x.ear(1, 0), -13);
    Check.fill(x, 1, 0, 0, -1);
    due("-1", x.ear(1, 2), -13);
    due("ear, wrong", x.ear(-1, 0), -1);
    due("ear, wrong", x.ear(8, 0), -1);
    due("ear, wrong", x.ear(1, 3), -1);
    due("ear, wrong", x.ear(0, -1), -1);
    due("ear, nothing", x.ear(0, 0), -11);
    x.keep(0, 1, 0);
    due("ear, a gear", x.ear(0, 0), -12);
    x.row(0, 2, 2);
    due("ear, ints", x.ear(0, 0), -12);
  }

  private static void bestShifts() {
    GearTeeth x = Check.plant("g0 9 0;g0 9 1;m0 1;");
    Check.fill(x, 0, 0, FLAT);
    int[][] byRoom = {{62, 0}, {61, 1}, {60, 2}, {54, 8}, {53, -4000}, {0, -4000}};
    for (int[] r : byRoom) {
      x.room(0, r[0]);
      due("best shift, room " + r[0], x.bestShift(0, 0, 2), r[1]);
    }
    due("nothing changes", x.gear(0, 5), 31);
    bestOfSeveral();
    int[][] wrong = {{-1, 0, 1}, {1, 0, 1}, {0, -1, 1}, {0, 8, 1}, {0, 0, 0}, {0, 0, 33}, {0, 1, 0}};
    for (int[] w : wrong) {
      due("best shift, wrong", x.bestShift(w[0], w[1], w[2]), FAR - 1);
    }
    due("nothing", x.bestShift(0, 1, 1), FAR - 11);
    x.keep(1, 1, 0);
    due("a gear", x.bestShift(0, 1, 1), FAR - 12);
    x.row(1, 1, 16);
    due("shorts", x.bestShift(0, 1, 1), FAR - 12);
    x.row(1, 0, 15);
    due("15", x.bestShift(0, 1, 1), FAR - 13);
    Check.fill(x, 1, 0, 0, 0, 0, 0, 0, 0, 0, 0, 0, 0, 0, 0, 0, 0, 0, 32);
    due("32", x.bestShift(0, 1, 1), FAR - 13);
  }

  /** EVEN is least with 8 and with -8: both are as near to 0, so it is the greater one. */
  private static void bestOfSeveral() {
    GearTeeth x = Check.plant("g0 9 0;g0 9 1;m0 1;");
    Check.fill(x, 0, 0, 20, 27, 28, 21, 22, 18, 22, 10, 9, 1, 8, 20, 2, 11, 6, 28);
    Check.fill(x, 1, 0, 8, 25, 2, 26, 17, 16, 19, 0, 27, 14, 20, 12, 20, 19, 11, 7);
    x.cut(1, 1, 208);
    due("the greater", x.bestShift(0, 0, 4), 8);
    for (int shift = -8; shift <= 8; shift++) {
      x.cut(0, 0, 408 + shift);
      boolean least = shift == -8 || shift == 8;
      due("even with " + shift, x.even(0) <= 17 ? 1 : 0, least ? 1 : 0);
      due("no jam with " + shift, x.jam(0), -4);
    }
  }

  private static void readBacks() {
    GearTeeth x = Check.plant("g0 9 0;");
    Check.fill(x, 0, 0, FLAT);
    due("uncut: how many", x.readBack(0, 0, 2, -1), 9);
    for (int i = 0; i < 9; i++) {
      due("uncut: the i-th", x.readBack(0, 0, 2, i), i);
    }
    due("uncut: not so many", x.readBack(0, 0, 2, 9), -4);
    due("uncut: not so many", x.readBack(0, 0, 2, HIGH), -4);
    x.cut(0, 0, 216);
    due("cut: how many", x.readBack(0, 0, 2, -1), 1);
    due("cut: which", x.readBack(0, 0, 2, 0), 16);
    due("other steps", x.readBack(0, 0, 1, -1), 0);
    due("other steps", x.readBack(0, 0, 1, 0), -4);
    due("nothing changes", x.gear(0, 5), 23);
    int[][] wrong = {{-1, 0, 1, 0}, {1, 0, 1, 0}, {0, -1, 1, 0}, {0, 8, 1, 0}, {0, 0, 0, 0}, {0, 0, 33, 0},
        {0, 0, 1, -2}, {0, 1, 1, LOW}};
    for (int[] w : wrong) {
      due("read back, wrong", x.readBack(w[0], w[1], w[2], w[3]), -1);
    }
    due("nothing", x.readBack(0, 1, 1, -1), -11);
    x.keep(1, 1, 0);
    due("a gear", x.readBack(0, 1, 1, -1), -12);
    x.row(1, 2, 16);
    due("ints", x.readBack(0, 1, 1, -1), -12);
    x.row(1, 0, 17);
    due("17", x.readBack(0, 1, 1, -1), -13);
  }

  private static void images() {
    GearTeeth x = bumps();
    due("none", x.restore(), -3);
    x.pair(3, 4);
    Check.write(x, 1, "r=0");
    x.rule(1);
    x.room(0, 50);
    due("image", x.image(), 2);
    due("more", Check.say(x, "g0 50 2;m2 0;d1 0 9;"), 3);
    x.wear(0, 999, 9);
    x.clear();
    x.pair(9, 9);
    x.pair(9, 8);
    Check.write(x, 1, "r=9");
    x.rule(1);
    x.keep(2, 1, 2);
    due("restore", x.restore(), 2);
    int[] counts = {2, 1, 1, 1, 18};
    for (int what = 0; what < counts.length; what++) {
      due("restored " + what, x.count(what), counts[what]);
    }
    due("restored room", x.mesh(0, 2), 50);
    due("restored flank", x.width(0, 3), 29);
    due("restored flank", x.width(1, 3), 29);
    due("restored pair", x.pushed(4), 4);
    due("restored pair", x.pushed(5), 5);
    due("restored rule", x.holds(0, 0), 1);
    due("shelves stay", x.weight(2), 160);
    due("shelves stay", x.element(1, 2), '9');
    x.wear(0, 999, 9);
    due("the image stays", x.restore(), 2);
    due("the image is its own", x.width(0, 3), 29);
    due("other image", new GearTeeth().restore(), -3);
    GearTeeth y = new GearTeeth();
    due("of nothing", y.image(), 0);
    Check.say(y, "g0 50 2;");
    due("taken anew", y.image(), 1);
    Check.say(y, "g0 50 2;");
    due("restore", y.restore(), 1);
  }

  private static void counts() {
    GearTeeth x = Check.plant("g0 9 0;g1 10 1;g4 99 1;m0 1;m0 2;");
    due("gears", x.count(0), 3);
    due("meshes", x.count(1), 2);
    due("rules", x.count(2), 0);
    due("pairs", x.count(3), 0);
    due("teeth", x.count(4), 118);
    due("widths", x.count(5), 3 * 16 * 31);
    due("locked", x.count(6), 0);
    Check.fill(x, 0, 0, FLAT);
    x.cut(0, 0, 216);
    due("widths", x.count(5), 16 * (31 + 31 + 23));
    due("count, wrong", x.count(7), -1);
    due("count, wrong", x.count(-1), -1);
    due("turned", Check.plant("g0 9 0;g1 10 1;g0 8 5;g0 8 5;m0 1;m2 3;").count(6), 3);
  }

  private static void keeping() {
    GearTeeth x = Check.plant("g0 9 0;g0 10 1;");
    due("keep", x.keep(7, 1, 1), 0);
    due("kept", x.weight(7), 120);
    due("keep nothing", x.keep(7, 0, HIGH), 0);
    due("nothing", x.weight(7), -11);
    due("keep nothing", x.keep(0, 0, LOW), 0);
    int[][] wrong = {{-1, 0, 0}, {8, 1, 0}, {0, 2, 0}, {0, -1, 0}, {0, 1, 2}, {0, 1, -1}};
    x.row(0, 0, 1);
    for (int[] w : wrong) {
      due("keep, wrong", x.keep(w[0], w[1], w[2]), -1);
    }
    due("as it was", x.weight(0), -12);
  }

  private static void rows() {
    GearTeeth x = Check.plant("g0 9 0;");
    due("row", x.row(0, 0, 0), 0);
    due("empty", x.put(0, 0, 1), -13);
    due("row", x.row(0, 1, 120), 0);
    due("put", x.put(0, 119, 7), 0);
    due("put", x.put(0, 120, 7), -13);
    due("put", x.put(0, -1, 7), -13);
    due("put", x.put(0, LOW, 7), -13);
    due("row", x.row(0, 1, 120), 0);
    due("zeroes", x.element(0, 119), 0);
    int[][] wrong = {{-1, 0, 1}, {8, 0, 1}, {0, -1, 1}, {0, 3, 1}, {0, 0, 121}, {0, 0, HIGH}, {8, 0, -1}, {0, 3, -1}};
    for (int[] w : wrong) {
      due("row, wrong", x.row(w[0], w[1], w[2]), -1);
    }
    due("below 0", x.row(0, 0, -1), -14);
    due("below 0", x.row(0, 2, LOW), -14);
    due("put, wrong", x.put(-1, 0, 0), -1);
    due("put, wrong", x.put(8, 0, 0), -1);
    due("put, nothing", x.put(1, 0, 0), -11);
    x.keep(1, 1, 0);
    due("put, a gear", x.put(1, 0, 0), -12);
  }

  /** 1 for an IllegalArgumentException, 2 for an IllegalStateException, 0 for an answer. */
  private static int thrown(GearTeeth x, int d, int i) {
    try {
      x.element(d, i);
      return 0;
    } catch (IllegalArgumentException e) {
      return 1;
    } catch (IllegalStateException e) {
      return 2;
    }
  }

  private static void elements() {
    GearTeeth x = Check.plant("g0 9 0;");
    int[] put = {0, 127, 128, 255, 256, -1, -128, -129, 32767, 32768, 65535, 65536, HIGH, LOW};
    for (int v : put) {
      x.row(0, 0, 1);
      x.put(0, 0, v);
      due("byte " + v, x.element(0, 0), (byte) v);
      x.row(0, 1, 1);
      x.put(0, 0, v);
      due("short " + v, x.element(0, 0), (short) v);
      x.row(0, 2, 1);
      x.put(0, 0, v);
      due("int " + v, x.element(0, 0), v);
    }
    due("element", thrown(x, 0, 0), 0);
    due("no such shelf", thrown(x, -1, 0), 1);
    due("no such shelf", thrown(x, 8, 0), 1);
    due("no such place", thrown(x, 0, 1), 2);
    due("no such place", thrown(x, 0, -1), 2);
    due("no row", thrown(x, 1, 0), 2);
    x.keep(1, 1, 0);
    due("no row", thrown(x, 1, 0), 2);
  }

  private static void copies() {
    GearTeeth x = Check.plant("g0 9 0;");
    Check.fill(x, 0, 2, 1, 2, 3, 4, 5);
    Check.fill(x, 1, 2, 0, 0, 0);
    due("copy", x.copy(0, 2, 1, 0, 3), 3);
    due("copied", x.element(1, 2), 5);
    due("the row stays", x.element(0, 2), 3);
    due("onto itself, up", x.copy(0, 0, 0, 1, 4), 4);
    for (int i = 0; i < 5; i++) {
      due("moved " + i, x.element(0, i), i == 0 ? 1 : i);
    }
    due("onto itself, down", x.copy(0, 1, 0, 0, 4), 4);
    for (int i = 0; i < 5; i++) {
      due("moved back " + i, x.element(0, i), i == 4 ? 4 : i + 1);
    }
    due("none of them", x.copy(0, 5, 1, 3, 0), 0);
    int[][] noPlace = {{0, -1, 1, 0, 1}, {0, 0, 1, -1, 1}, {0, 3, 1, 0, 3}, {0, 0, 1, 1, 3}, {0, 0, 1, 0, 4},
        {0, 0, 1, 0, -1}, {0, HIGH, 1, 0, 1}, {0, 1, 1, 0, HIGH}, {0, 1, 1, HIGH, HIGH}, {0, LOW, 1, 0, LOW},
        {0, 6, 1, 0, 0}, {0, 0, 1, 4, 0}};
    for (int[] n : noPlace) {
      due("copy, no place", x.copy(n[0], n[1], n[2], n[3], n[4]), -13);
    }
    due("copy, wrong", x.copy(-1, 0, 1, 0, 1), -1);
    due("copy, wrong", x.copy(0, 0, 8, 0, 1), -1);
    due("copy, nothing", x.copy(0, 0, 2, 0, 1), -11);
    due("copy, nothing", x.copy(2, 0, 0, 0, 1), -11);
    x.keep(3, 1, 0);
    due("copy, nothing goes ahead", x.copy(3, 0, 2, 0, 1), -11);
    due("copy, a gear", x.copy(3, 0, 0, 0, 1), -12);
    due("copy, a gear", x.copy(0, 0, 3, 0, 1), -12);
    due("copy, two gears", x.copy(3, 0, 3, 0, 1), -12);
    x.row(4, 1, 5);
    due("copy, other sort", x.copy(0, 0, 4, 0, 1), -12);
    due("copy, other sort goes ahead", x.copy(0, 0, 4, 0, 100), -12);
  }

  private static GearTeeth ofAllKinds() {
    GearTeeth x = Check.plant("g4 50 0;g3 9 1;g2 9 2;g1 9 3;g0 9 4;");
    Check.fill(x, 5, 0, 31, 0, 0, 0, 0, 0, 0, 0, 0, 0, 0, 0, 0, 0, 0, 12);
    return x;
  }

  private static void weights() {
    GearTeeth x = ofAllKinds();
    int[] uncut = {196, 330, 145, 160, 119};
    int[] cut = {184, 268, 114, 129, 119};
    for (int gear = 0; gear < 5; gear++) {
      x.keep(0, 1, gear);
      due("weight " + gear, x.weight(0), uncut[gear]);
      x.cut(gear, 5, 208);
      due("as it was then " + gear, x.weight(0), uncut[gear]);
      x.keep(0, 1, gear);
      due("weight, cut " + gear, x.weight(0), cut[gear]);
    }
    due("weight, wrong", x.weight(-1), -1);
    due("weight, wrong", x.weight(8), -1);
    due("weight, nothing", x.weight(1), -11);
    due("weight, a row", x.weight(5), -12);
  }

  private static void tosses() {
    GearTeeth x = ofAllKinds();
    int[] uncut = {-15, -15, 133, 3, 4};
    int[] cut = {-15, 1, 102, 3, 4};
    for (int gear = 0; gear < 5; gear++) {
      x.keep(0, 1, gear);
      due("toss " + gear, x.toss(0), uncut[gear]);
      x.cut(gear, 5, 208);
      due("as it was then " + gear, x.toss(0), uncut[gear]);
      x.keep(0, 1, gear);
      due("toss, cut " + gear, x.toss(0), cut[gear]);
    }
    due("toss, wrong", x.toss(-1), -1);
    due("toss, wrong", x.toss(8), -1);
    due("toss, nothing", x.toss(1), -11);
    due("toss, a row", x.toss(5), -12);
  }
}
