/**
 * Terms 1 and 2, promises 1 to 5: of each sentence the last value that is in range and the first that isn't.
 * What is refused by promise is in RefusalTests.
 */
public final class TextBoundaryTests {
  /** All that may come behind a text as far as it goes: texts, and signs ('9' is any digit). */
  private static final String[][] GO_ON = {
      {"", "gmd"}, {"g0 9 0;", "gmd"}, {"g0 9 0;g0 9 1;m0 1;", "gmd"},
      {"g", "9"}, {"m", "9"}, {"d", "9"}, {"g0 9 0;g", "9"},
      {"g0", " "}, {"g1", "9 "}, {"g9", "9 "}, {"g10", " "}, {"g99", " "},
      {"g0 ", "9"}, {"g0 0", " "}, {"g0 4", "9 "}, {"g0 40", " "}, {"g0 99", " "},
      {"g0 9 ", "9"}, {"g0 9 0", ";"}, {"g0 9 7", "9;"}, {"g0 9 10", ";"},
      {"m0", " "}, {"m1", "9 "}, {"m11", " "}, {"m0 ", "9"}, {"m0 0", ";"}, {"m0 1", "9;"}, {"m0 11", ";"},
      {"d0", " "}, {"d1", "9 "}, {"d11", " "}, {"d0 ", "9"}, {"d0 0", " "}, {"d0 1", "9 "}, {"d0 11", " "},
      {"d0 1 ", "9"}, {"d0 1 0", ";"}, {"d0 1 6", "9;"}, {"d0 1 62", ";"}};

  public static void main(String[] args) {
    newObject();
    gearsAsTheyCome();
    kinds();
    teeth();
    shafts();
    hardAndStiff();
    flanksAtFirst();
    whatGoesOn();
    whatEndsTooEarly();
    kindOneGoesAhead();
    numbersOfGears();
    roomsInTexts();
    roomForGears();
    roomForMeshes();
    meshesThatMayNotBe();
    oneBehindTheOther();
    asMuchAsARowHolds();
    rowsOfBytes();
    Check.end();
  }

  private static void due(String call, long got, long want) {
    Check.due(call, got, want);
  }

  /** Promise 1, "SHELVES 0 .. 7 each hold nothing (at first)". */
  private static void newObject() {
    for (int d = 0; d < 8; d++) {
      GearTeeth x = new GearTeeth();
      due("text " + d, x.text(d), -11);
      due("fault " + d, x.fault(d), -11);
      due("rule " + d, x.rule(d), -11);
      due("ear " + d, x.ear(d, 0), -11);
      due("put " + d, x.put(d, 0, 0), -11);
      due("copy " + d, x.copy(d, 0, d, 0, 0), -11);
      due("weight " + d, x.weight(d), -11);
      due("toss " + d, x.toss(d), -11);
      due("element " + d, Bench.thrown(x, d, 0), 2);
      Check.write(x, 7 - d, "g0 9 0;g0 9 1;m0 1;");
      due("text", x.text(7 - d), 3);
      due("cut " + d, x.cut(0, d, 108), -11);
      due("best shift " + d, x.bestShift(0, d, 1), Bench.FAR - 11);
      due("read back " + d, x.readBack(0, d, 1, -1), -11);
    }
    GearTeeth x = new GearTeeth();
    for (int what = 0; what <= 5; what++) {
      due("count " + what, x.count(what), 0);
    }
    due("shaft 0 turns", x.count(6), 1);
  }

  /** "GEARS 0 .. 11 as they come", and MESHES "as they came". */
  private static void gearsAsTheyCome() {
    GearTeeth x = new GearTeeth();
    for (int gear = 0; gear < 12; gear++) {
      due("none yet", x.gear(gear, 1), -1);
      due("one more", Check.say(x, "g0 " + (50 + gear) + " 0;"), 1);
      due("gear " + gear, x.gear(gear, 1), 50 + gear);
    }
    due("the first", x.gear(0, 1), 50);
    due("behind the last", x.gear(12, 1), -1);
    due("ahead of the first", x.gear(-1, 1), -1);
    GearTeeth y = Bench.full();
    for (int mesh = 0; mesh < 9; mesh++) {
      due("mesh, a", y.mesh(mesh, 0), 0);
      due("mesh, b", y.mesh(mesh, 1), mesh + 1);
    }
    due("the last, a", y.mesh(15, 0), 11);
    due("the last, b", y.mesh(15, 1), 1);
    due("behind the last", y.mesh(16, 0), -1);
  }

  private static void read(String text, int what, int told) {
    GearTeeth x = new GearTeeth();
    due("text <" + text + ">", Check.say(x, text), 1);
    due("of <" + text + ">", x.gear(0, what), told);
  }

  private static void faultOf(String text, int due) {
    GearTeeth x = new GearTeeth();
    due("text <" + text + ">", Check.say(x, text), due);
    due("nothing came of <" + text + ">", x.count(0) + x.count(1), 0);
  }

  private static void kinds() {
    for (int kind = 0; kind <= 4; kind++) {
      read("g" + kind + " 9 0;", 0, kind);
    }
    for (int kind : new int[] {5, 6, 9, 10, 99}) {
      faultOf("g" + kind + " 9 0;", -2000);
    }
  }

  private static void teeth() {
    for (int teeth : new int[] {4, 5, 9, 10, 11, 98, 99}) {
      read("g0 " + teeth + " 0;", 1, teeth);
    }
    for (int teeth = 0; teeth < 4; teeth++) {
      faultOf("g0 " + teeth + " 0;", -2000);
    }
    faultOf("g0 100 0;", -1005);
  }

  private static void shafts() {
    for (int shaft = 0; shaft <= 7; shaft++) {
      read("g0 9 " + shaft + ";", 2, shaft);
    }
    for (int shaft : new int[] {8, 9, 10, 99}) {
      faultOf("g0 9 " + shaft + ";", -2000);
    }
  }

  /** "HARD: .. RING a GEAR's plus (TEETH over 10, cut), more"; no other KIND asks for its TEETH. */
  private static void hardAndStiff() {
    int[][] rings = {{4, 10}, {9, 10}, {10, 11}, {19, 11}, {20, 12}, {89, 18}, {90, 19}, {99, 19}};
    for (int[] ring : rings) {
      read("g4 " + ring[0] + " 0;", 3, ring[1]);
      read("g4 " + ring[0] + " 0;", 4, 16);
    }
    int[] hards = {10, 20, 5, 25};
    int[] stiffs = {8, 12, 6, 12};
    for (int kind = 0; kind < 4; kind++) {
      for (int teeth : new int[] {4, 99}) {
        read("g" + kind + " " + teeth + " 0;", 3, hards[kind]);
        read("g" + kind + " " + teeth + " 0;", 4, stiffs[kind]);
      }
    }
  }

  /** "Each has a FLANK: 16 WIDTHS (0 .. 31; 31 at first)." */
  private static void flanksAtFirst() {
    GearTeeth x = Check.plant("g0 9 0;g4 9 0;");
    for (int y = 0; y < 16; y++) {
      due("width " + y, x.width(1, y), 31);
    }
    due("width 16", x.width(1, 16), -1);
    due("width -1", x.width(1, -1), -1);
    due("all widths", x.count(5), 2 * 16 * 31);
  }

  /** "kind 1 the place of the first byte with which no TEXT can go on": by each of all bytes. */
  private static void whatGoesOn() {
    for (String[] known : GO_ON) {
      String text = known[0];
      GearTeeth x = new GearTeeth();
      int asked = 0;
      for (int sign = -128; sign < 128; sign++) {
        boolean digit = sign >= '0' && sign <= '9';
        boolean goesOn = known[1].indexOf(digit ? '9' : sign) >= 0;
        if (asked++ % 12 == 0) {
          x = new GearTeeth();
          Check.write(x, 0, text + "?");
        }
        x.put(0, text.length(), sign);
        int fault = x.text(0);
        if (!goesOn) {
          due("<" + text + "> and sign " + sign, fault, -1000 - text.length());
        } else if (sign != ';') {
          due("<" + text + "> and then <" + (char) sign + ">", fault, -1001 - text.length());
        } else {
          Check.holds("<" + text + ";> is no fault of kind 1", fault == 1 || fault == -2000);
        }
      }
    }
  }

  /** "(the size, if it ends too early)", "At least one STATEMENT." */
  private static void whatEndsTooEarly() {
    String text = "g0 9 0;g4 99 7;m0 1;d1 0 62;";
    int statements = 0;
    for (int size = 0; size <= text.length(); size++) {
      boolean whole = size > 0 && text.charAt(size - 1) == ';';
      statements += whole ? 1 : 0;
      GearTeeth x = new GearTeeth();
      due("the first " + size, Check.say(x, text.substring(0, size)), whole ? statements : -1000 - size);
    }
  }

  /** "kind 1 (of any place) goes ahead of kind 2". */
  private static void kindOneGoesAhead() {
    faultOf("g5 9 0;", -2000);
    faultOf("g5 9 0;x", -1007);
    faultOf("g5 9 0;g", -1008);
    faultOf("m0 1;m0 1;m0 1;m0 1;m0 1;m0 1;m0 1;m0 1;m0 1;m0 1;m0 1;m0 1;m0 1;m0 1;m0 1;m0 1;m0 1;m0 01;", -1089);
    faultOf("g0 3 0;g0 4 00;", -1013);
    faultOf("g0 9 0;g5 9 0;g0 9 9;", -2007);
    faultOf("g0 9 9;g5 9 0;g0 9 0;", -2000);
  }

  /** "a GEAR that isn't there ahead of it". */
  private static void numbersOfGears() {
    String two = "g0 9 0;g0 9 1;";
    int[][] there = {{0, 1}, {1, 0}};
    for (int[] t : there) {
      due("mesh", Check.say(new GearTeeth(), two + "m" + t[0] + " " + t[1] + ";"), 3);
      due("d", Check.say(new GearTeeth(), two + "m0 1;d" + t[0] + " " + t[1] + " 5;"), 4);
    }
    int[][] notThere = {{0, 2}, {2, 0}, {1, 2}, {2, 2}, {0, 12}, {99, 0}, {0, 99}};
    for (int[] t : notThere) {
      faultOf(two + "m" + t[0] + " " + t[1] + ";", -2014);
      faultOf(two + "m0 1;d" + t[0] + " " + t[1] + " 5;", -2019);
    }
    faultOf("m0 1;" + two, -2000);
    faultOf("g0 9 0;m0 1;g0 9 1;", -2007);
    GearTeeth x = Bench.full();
    due("gear 11 is there", Check.say(x, "d11 1 7;"), 1);
    due("gear 12 isn't", Check.say(x, "d11 12 7;"), -2000);
    due("the last room", x.mesh(15, 2), 7);
  }

  /** "the ROOM of these two is that (0 .. 62)", "ROOM of a MESH is 62 at first". */
  private static void roomsInTexts() {
    GearTeeth x = Check.plant("g0 9 0;g0 9 1;m0 1;");
    due("at first", x.mesh(0, 2), 62);
    int[][] rooms = {{0, 1}, {1, 1}, {61, 1}, {62, 1}, {63, -2000}, {99, -2000}};
    for (int[] room : rooms) {
      Check.say(x, "d0 1 30;");
      due("d0 1 " + room[0], Check.say(x, "d0 1 " + room[0] + ";"), room[1]);
      due("room", x.mesh(0, 2), room[1] == 1 ? room[0] : 30);
    }
    due("d0 1 620", Check.say(x, "d0 1 620;"), -1007);
    due("two of them", Check.say(x, "d0 1 5;d1 0 6;"), 2);
    due("the last counts", x.mesh(0, 2), 6);
    due("room is of one mesh", Check.say(x, "g0 9 2;m2 1;d1 2 3;"), 3);
    due("the other", x.mesh(0, 2), 6);
    due("this one", x.mesh(1, 2), 3);
  }

  private static String gears(int n) {
    StringBuilder all = new StringBuilder();
    for (int i = 0; i < n; i++) {
      all.append("g0 9 0;");
    }
    return all.toString();
  }

  /** "no room (12 GEARS, ..)". */
  private static void roomForGears() {
    for (int first = 0; first <= 12; first++) {
      GearTeeth x = new GearTeeth();
      if (first > 0) {
        due(first + " gears", Check.say(x, gears(first)), first);
      }
      int left = 12 - first;
      due("one too many", Check.say(x, gears(left + 1)), -2000 - 7 * left);
      due("none of them came", x.count(0), first);
      if (left > 0) {
        due("all that have room", Check.say(x, gears(left)), left);
      }
      due("12", x.count(0), 12);
      due("a 13th", Check.say(x, "g0 9 0;"), -2000);
    }
    faultOf(gears(12) + "m0 1;g0 9 0;", -2089);
  }

  /** "no room (.., 16 MESHES)". */
  private static void roomForMeshes() {
    String[] meshes = {"m0 1;", "m0 2;", "m0 3;", "m0 4;", "m0 5;", "m1 2;", "m1 3;", "m1 4;", "m1 5;", "m2 3;",
        "m2 4;", "m2 5;", "m3 4;", "m3 5;", "m4 5;", "m6 0;", "m6 1;", "m6 2;"};
    for (int first = 13; first <= 16; first++) {
      GearTeeth x = Check.plant(gears(7));
      StringBuilder all = new StringBuilder();
      for (int i = 0; i < first; i++) {
        all.append(meshes[i]);
      }
      due(first + " meshes", Check.say(x, all.toString()), first);
      StringBuilder more = new StringBuilder();
      for (int i = first; i < 17; i++) {
        more.append(meshes[i]);
      }
      due("one too many", Check.say(x, more.toString()), -2000 - 5 * (16 - first));
      due("none of them came", x.count(1), first);
      if (first < 16) {
        more.setLength(5 * (16 - first));
        due("all that have room", Check.say(x, more.toString()), 16 - first);
      }
      due("16", x.count(1), 16);
      due("a 17th", Check.say(x, meshes[17]), -2000);
      due("gears still have room", Check.say(x, "g0 9 0;d6 0 9;"), 2);
      due("the 16th", x.mesh(15, 2), 9);
    }
  }

  /** "a MESH of one with itself, of two RINGS, of two that MESH, a d of two that don't MESH". */
  private static void meshesThatMayNotBe() {
    GearTeeth x = Check.plant("g0 9 0;g4 9 1;g4 9 2;g3 9 3;");
    due("one with itself", Check.say(x, "m0 0;"), -2000);
    due("a ring with itself", Check.say(x, "m1 1;"), -2000);
    due("the last with itself", Check.say(x, "m3 3;"), -2000);
    due("two rings", Check.say(x, "m1 2;"), -2000);
    due("two rings", Check.say(x, "m2 1;"), -2000);
    due("d of none", Check.say(x, "d0 1 5;"), -2000);
    due("d of one", Check.say(x, "d0 0 5;"), -2000);
    due("a gear and a ring", Check.say(x, "m0 1;"), 1);
    due("d of one that meshes", Check.say(x, "d0 0 5;"), -2000);
    due("d of others", Check.say(x, "d0 2 5;"), -2000);
    due("d of others", Check.say(x, "d2 1 5;"), -2000);
    due("d of both", Check.say(x, "d1 0 5;"), 1);
    due("again", Check.say(x, "m0 1;"), -2000);
    due("again, the other way", Check.say(x, "m1 0;"), -2000);
    due("a ring and a gear", Check.say(x, "m2 0;"), 1);
    due("again, the other way", Check.say(x, "m0 2;"), -2000);
    due("a ring and a planet", Check.say(x, "m1 3;m3 2;"), 2);
    due("meshes", x.count(1), 4);
    due("its room", x.mesh(0, 2), 5);
    due("of all kinds but rings", Check.say(Check.plant("g0 9 0;g1 9 0;g2 9 0;g3 9 0;"),
        "m0 1;m1 2;m2 3;m3 0;m0 2;m1 3;"), 6);
  }

  /** "STATEMENTS are tried one behind the other, each on what those ahead of it made". */
  private static void oneBehindTheOther() {
    due("all in one", Check.say(new GearTeeth(), "g0 9 0;g0 9 1;m0 1;d0 1 5;g4 9 2;m2 1;d1 2 6;"), 7);
    faultOf("g0 9 0;g0 9 1;d0 1 5;m0 1;", -2014);
    faultOf("g0 9 0;g0 9 1;m0 1;m1 0;d0 1 5;", -2019);
    faultOf("g4 9 0;g0 9 1;g4 9 2;m0 1;m1 2;m2 0;", -2031);
    GearTeeth x = Check.plant("g0 9 0;g0 9 1;m0 1;d0 1 5;");
    due("with a fault", Check.say(x, "d0 1 6;g0 8 2;m2 0;d2 0 7;d2 1 8;"), -2026);
    due("the room is as it was", x.mesh(0, 2), 5);
    due("the gears are", x.count(0), 2);
    due("the meshes are", x.count(1), 1);
    due("what had come goes on", Check.say(x, "g0 8 2;m2 0;m2 1;"), 3);
    due("with room as at first", x.mesh(1, 2), 62);
    due("in its own number", x.gear(2, 1), 8);
  }

  /** A ROW has 120 elements at most: a TEXT of as many is read to its end. */
  private static void asMuchAsARowHolds() {
    String text = gears(12) + "m0 1;m0 2;m0 3;m0 4;m0 5;m0 6;m0 10;";
    due("size", text.length(), 120);
    due("120 bytes", Check.say(new GearTeeth(), text), 19);
    faultOf(text.substring(0, 119), -1119);
    faultOf(text.substring(0, 119) + ' ', -1119);
    faultOf(text.substring(0, 114) + "m10 10", -1120);
    faultOf(text.substring(0, 114) + "m0 12;", -2114);
    GearTeeth x = Check.plant(text);
    due("the last is there", x.mesh(6, 1), 10);
    StringBuilder rooms = new StringBuilder();
    for (int i = 0; i < 17; i++) {
      rooms.append("d0 1 ").append(i % 10).append(';');
    }
    due("17 statements", Check.say(x, rooms.toString()), 17);
    due("the last of them", x.mesh(0, 2), 6);
  }

  /** "what is put in keeps its lowest bits", and "The ROW that is read .. stay(s) there". */
  private static void rowsOfBytes() {
    GearTeeth x = new GearTeeth();
    Check.fill(x, 0, 0, 'g' + 256, '0' - 256, ' ' + 65536, '9', ' ', '1', ';' - 512);
    due("text", x.text(0), 1);
    for (int i = 0; i < 7; i++) {
      due("stays " + i, x.element(0, i), "g0 9 1;".charAt(i));
    }
    due("and once more", x.text(0), 1);
    x.put(0, 0, 'g' + 128);
    due("a byte below 0", x.text(0), -1000);
    due("stays, with a fault", x.element(0, 0), (byte) ('g' + 128));
    x.row(0, 0, 0);
    due("no bytes", x.text(0), -1000);
    x.row(0, 0, 1);
    due("a byte 0", x.text(0), -1000);
  }
}
