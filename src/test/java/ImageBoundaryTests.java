/** Term 5, promises 34 to 36: THE IMAGE of nothing and of all that has room, and what is counted. */
public final class ImageBoundaryTests {
  public static void main(String[] args) {
    none();
    ofNothing();
    ofAllThatHasRoom();
    eachPartComesBack();
    fewerOrMorePairs();
    stillThere();
    takenAnew();
    shelvesStay();
    countsAtTheEdges();
    countTurned();
    theLastCall();
    Check.end();
  }

  private static void due(String call, long got, long want) {
    Check.due(call, got, want);
  }

  /** "-3: there is none". */
  private static void none() {
    GearTeeth x = Check.plant("g0 9 0;");
    due("none", x.restore(), -3);
    due("none still", x.restore(), -3);
    due("taken", x.image(), 1);
    due("there is one", x.restore(), 1);
  }

  private static void ofNothing() {
    GearTeeth x = new GearTeeth();
    due("of nothing", x.image(), 0);
    Check.say(x, "g0 9 0;g0 9 0;m0 1;");
    x.pair(1, 1);
    Check.write(x, 0, "1=1");
    x.rule(0);
    due("locked", x.locked(), 1);
    due("restored", x.restore(), 0);
    for (int what = 0; what <= 5; what++) {
      due("count " + what, x.count(what), 0);
    }
    due("shaft 0 turns", x.count(6), 1);
    due("not locked", x.locked(), 0);
    due("no gear", x.gear(0, 0), -1);
    due("no mesh", x.mesh(0, 0), -1);
    due("no rule", x.holds(0, 0), -1);
    due("no pair", x.share(0, 0), -1);
    due("gears come from 0 on", Check.say(x, "g1 10 2;"), 1);
    due("gear 0", x.gear(0, 1), 10);
    due("its flank", x.gear(0, 5), 31);
  }

  /** 12 GEARS, 16 MESHES, 6 PAIRS, 12 RULES: the first and the last of each come back. */
  private static void ofAllThatHasRoom() {
    GearTeeth x = Bench.full();
    x.room(0, 3);
    x.room(15, 4);
    due("image", x.image(), 12);
    x.wear(15, 999, 2);
    x.wear(0, 999, 1);
    x.room(0, 50);
    x.room(15, 51);
    x.clear();
    x.pair(0, 99);
    due("worn", x.gear(11, 5) < 31 ? 1 : 0, 1);
    due("worn", x.gear(0, 5) < 31 ? 1 : 0, 1);
    due("restored", x.restore(), 12);
    int[] counts = {12, 16, 12, 6, 83, 12 * 16 * 31};
    for (int what = 0; what < counts.length; what++) {
      due("count " + what, x.count(what), counts[what]);
    }
    for (int y = 0; y < 16; y++) {
      due("width of the first", x.width(0, y), 31);
      due("width of the last", x.width(11, y), 31);
    }
    due("the last gear", x.gear(11, 0) * 10000 + x.gear(11, 1) * 100 + x.gear(11, 2), 40907);
    due("the first room", x.mesh(0, 2), 3);
    due("the last room", x.mesh(15, 2), 4);
    due("the last mesh", x.mesh(15, 0) * 100 + x.mesh(15, 1), 1101);
    due("the first pair", x.share(0, 10), 3);
    due("the last pair", x.share(5, 9999), 6 * (x.pushed(9999) - 5));
    due("the last pair bears", x.bearing(9999), 63);
    due("the last rule", x.holds(11, 0), 1);
    due("no room for a gear", Check.say(x, "g0 9 0;"), -2000);
    due("no room for a mesh", Check.say(x, "m11 2;"), -2000);
    due("no room for a pair", x.pair(0, 1), -2);
    due("no room for a rule", x.rule(7), -2);
  }

  /** "RESTORED all is as it was then": each KIND of thing by itself. */
  private static void eachPartComesBack() {
    GearTeeth x = Check.plant("g2 9 3;g4 9 4;m1 0;d0 1 17;");
    Bench.flank(x, 0, 20, 21, 22, 23, 24, 25, 26, 27, 28, 27, 26, 25, 24, 23, 22, 21);
    x.pair(7, 8);
    Check.write(x, 1, "r=2");
    x.rule(1);
    due("image", x.image(), 2);
    Bench.flank(x, 0, 11, 11, 11, 11, 11, 11, 11, 11, 11, 11, 11, 11, 11, 11, 11, 11);
    x.wear(0, 999, 3);
    x.room(0, 18);
    Check.say(x, "g0 4 0;m2 0;");
    x.pair(1, 1);
    Check.write(x, 1, "1=1");
    x.rule(1);
    due("restored", x.restore(), 2);
    for (int y = 0; y < 16; y++) {
      due("width " + y, x.width(0, y), y <= 8 ? 20 + y : 36 - y);
      due("width of the other " + y, x.width(1, y), 31);
    }
    int[] gear = {2, 9, 3};
    int[] mesh = {1, 0, 17};
    for (int what = 0; what < 3; what++) {
      due("gear " + what, x.gear(0, what), gear[what]);
      due("mesh " + what, x.mesh(0, what), mesh[what]);
    }
    due("gears", x.count(0), 2);
    due("meshes", x.count(1), 1);
    due("rules", x.count(2), 1);
    due("pairs", x.count(3), 1);
    due("the pair", x.share(0, 9), 16);
    due("the rule", x.watch(0, 0, 1), 2);
    due("the other rule", x.watch(1, 0, 1), -1);
    due("a rule more", x.rule(1), 1);
    due("that holds", x.watch(1, 0, 1), 0);
    due("a pair more", x.pair(0, 1), 2);
    due("a mesh more, its room", Check.say(x, "g0 9 1;m2 0;") == 2 ? x.mesh(1, 2) : -99, 62);
  }

  /** There may be fewer PAIRS now than THE IMAGE has, or more, and others. */
  private static void fewerOrMorePairs() {
    for (int n = 0; n <= 6; n++) {
      GearTeeth x = new GearTeeth();
      for (int i = 0; i < n; i++) {
        x.pair(i, 10 - i);
      }
      x.image();
      x.clear();
      for (int i = 0; i < 6; i++) {
        due("others", x.pair(50, 50), i + 1);
      }
      due("restored", x.restore(), 0);
      due("pairs", x.clear(), n);
      due("none", x.count(3), 0);
      due("restored again", x.restore(), 0);
      due("pairs", x.count(3), n);
      for (int i = 0; i < n; i++) {
        due("share of " + i, x.share(i, 9999), (10 - i) * (x.pushed(9999) - i));
      }
      due("share of none", x.share(n, 1), -1);
    }
  }

  /** What is done behind a RESTORE doesn't come into THE IMAGE; it isn't used up. */
  private static void stillThere() {
    GearTeeth x = Check.plant("g0 9 0;g0 9 1;m0 1;");
    x.pair(0, 1);
    due("image", x.image(), 2);
    for (int i = 0; i < 4; i++) {
      x.wear(0, 999, 4);
      x.room(0, i);
      x.clear();
      Check.say(x, "g0 9 2;");
      due("restored", x.restore(), 2);
      due("widths", x.count(5), 2 * 16 * 31);
      due("room", x.mesh(0, 2), 62);
      due("pairs", x.count(3), 1);
      due("gears", x.count(0), 2);
    }
  }

  private static void takenAnew() {
    GearTeeth x = Bench.full();
    due("image", x.image(), 12);
    GearTeeth y = Check.plant("g0 9 0;");
    due("image", y.image(), 1);
    Check.say(y, "g0 10 0;");
    due("restored", y.restore(), 1);
    Check.say(y, "g0 11 1;g0 12 2;");
    due("image", y.image(), 3);
    Check.say(y, "g0 10 0;");
    due("restored", y.restore(), 3);
    due("as it was the last time", y.count(4), 32);
    due("again", y.restore(), 3);
    due("the other object", x.restore(), 12);
  }

  /** "THE IMAGE: all that there is, but SHELVES"; "SHELVES stay as they are". */
  private static void shelvesStay() {
    GearTeeth x = Check.plant("g0 9 0;g2 9 1;");
    Check.fill(x, 0, 1, 5, 6);
    x.keep(1, 1, 1);
    x.image();
    x.put(0, 1, 7);
    x.keep(1, 1, 0);
    Check.fill(x, 2, 2, 70000);
    Check.say(x, "g3 50 2;g4 60 3;");
    x.keep(3, 1, 2);
    x.keep(4, 1, 3);
    due("restored", x.restore(), 2);
    due("a row", x.element(0, 1), 7);
    due("a gear", x.weight(1), 119);
    due("a row more", x.element(2, 0), 70000);
    due("a gear that is no more", x.weight(3), 2 * (100 + 50 + 25 + 31));
    due("a ring that is no more", x.weight(4), 100 + 60 + 16 + 31);
    due("nothing", x.weight(5), -11);
    x.keep(0, 0, 0);
    due("restored", x.restore(), 2);
    due("nothing stays nothing", x.weight(0), -11);
  }

  /** "4 all TEETH, 5 all WIDTHS of all FLANKS", of none and of 12. */
  private static void countsAtTheEdges() {
    GearTeeth x = new GearTeeth();
    for (int n = 1; n <= 12; n++) {
      Check.say(x, "g0 99 0;");
      due("gears", x.count(0), n);
      due("teeth", x.count(4), 99 * n);
      due("widths", x.count(5), 496 * n);
    }
    due("count -1", x.count(-1), -1);
    due("count 7", x.count(7), -1);
    Check.fill(x, 0, 0, 31, 31, 31, 31, 31, 31, 31, 31, 31, 31, 31, 31, 31, 31, 31, 31);
    x.cut(0, 0, 208);
    due("one is nothing", x.count(5), 496 * 11);
    x.cut(11, 0, 208);
    due("the last is nothing", x.count(5), 496 * 10);
    due("the teeth are as they were", x.count(4), 1188);
  }

  /** "6 SHAFTS that are TURNED (0, if LOCKED)": 1 at least else, and 8 at most. */
  private static void countTurned() {
    GearTeeth x = Check.plant("g0 9 0;g0 9 1;g0 9 2;g0 9 3;g0 9 4;g0 9 5;g0 9 6;g0 9 7;");
    for (int shaft = 0; shaft < 7; shaft++) {
      due("turned", x.count(6), shaft + 1);
      due("one more", Check.say(x, "m" + (shaft + 1) + " " + shaft + ";"), 1);
    }
    due("all turn", x.count(6), 8);
    due("an odd ring", Check.say(x, "m0 2;"), 1);
    due("none", x.count(6), 0);
    GearTeeth y = Check.plant("g0 9 6;g0 9 6;g0 9 7;g0 9 7;m0 1;");
    due("one stands", y.count(6), 2);
    due("two stand", Check.say(y, "m2 3;") == 1 ? y.count(6) : -99, 3);
  }

  /** "An object is used for at most 512 calls": the 512th is answered as the first would be. */
  private static void theLastCall() {
    GearTeeth x = new GearTeeth();
    Check.fill(x, 0, 0, 'g', '1', ' ', '9', ' ', '0', ';');
    due("text", x.text(0), 1);
    for (int calls = 9; calls < 511; calls++) {
      switch (calls % 3) {
        case 0: due("image", x.image(), 1); break;
        case 1: due("one more", x.text(0), 1); break;
        default: due("restore", x.restore(), 1);
      }
    }
    due("the 512th", x.gear(0, 3), 20);
  }
}
