/** Term 3, promises 6 to 10: what turns, stands, is free or locks at the very edge; HUNT, PLANETS, MOST. */
public final class TurningBoundaryTests {
  private static final int FAR = Bench.FAR;

  public static void main(String[] args) {
    shaftNoughtTurns();
    whichWay();
    oneShaft();
    lockedByTheLeast();
    lockedOnlyWithShaftNought();
    whatHangsOnWhatStands();
    leastTerms();
    farSpeeds();
    allShafts();
    huntsAtTheEdges();
    huntsAreLeast();
    planetsAtTheEdges();
    planetsByTheWords();
    Check.end();
  }

  private static void due(String call, long got, long want) {
    Check.due(call, got, want);
  }

  private static void speed(GearTeeth x, int shaft, long above, long below) {
    due("speed of " + shaft + ", above", x.speed(shaft, 0), above);
    due("speed of " + shaft + ", below", x.speed(shaft, 1), below);
  }

  private static void free(GearTeeth x, int shaft) {
    speed(x, shaft, FAR - 4, FAR - 4);
  }

  /** "With SHAFT 0 at SPEED 1": with no GEARS, with none on it, and with some. */
  private static void shaftNoughtTurns() {
    GearTeeth x = new GearTeeth();
    for (String text : new String[] {"g0 9 7;", "g0 9 0;", "g0 10 1;m1 0;"}) {
      speed(x, 0, 1, 1);
      due("not locked", x.locked(), 0);
      due("shaft 0 alone", x.count(6), 1);
      for (int shaft = 1; shaft < 8; shaft++) {
        free(x, shaft);
      }
      due(text, Check.say(x, text) > 0 ? 1 : 0, 1);
    }
    free(x, 1);
    due("now it hangs on it", Check.say(x, "m2 1;"), 1);
    speed(x, 1, -9, 10);
    speed(x, 7, -1, 1);
    due("turned", x.count(6), 3);
  }

  /** "SPEED times TEETH of one is 0 less that of the other, if neither is a RING; else it is that of the other." */
  private static void whichWay() {
    for (int a = 0; a <= 4; a++) {
      for (int b = 0; b <= 4; b++) {
        if (a == 4 && b == 4) {
          continue;
        }
        int sign = a == 4 || b == 4 ? 1 : -1;
        speed(Check.plant("g" + a + " 9 0;g" + b + " 10 1;m0 1;"), 1, 9 * sign, 10);
        speed(Check.plant("g" + a + " 9 0;g" + b + " 10 1;m1 0;"), 1, 9 * sign, 10);
        speed(Check.plant("g" + a + " 9 1;g" + b + " 10 0;m0 1;"), 1, 10 * sign, 9);
      }
    }
  }

  /** "GEARS on one SHAFT turn alike." */
  private static void oneShaft() {
    GearTeeth x = Check.plant("g0 9 0;g0 10 1;g0 11 1;g0 12 2;m0 1;m2 3;");
    speed(x, 1, -9, 10);
    speed(x, 2, 33, 40);
    GearTeeth two = Check.plant("g0 9 7;g0 10 7;m0 1;");
    due("two on one shaft that mesh only stand", two.locked(), 0);
    speed(two, 7, 0, 1);
    due("on shaft 0 they lock", Check.plant("g0 9 0;g0 9 0;m0 1;").locked(), 1);
    GearTeeth rings = Check.plant("g4 9 7;g0 9 7;m0 1;g4 9 0;g0 9 0;m2 3;");
    due("a ring and a gear alike keep it", rings.locked(), 0);
    free(rings, 7);
    speed(rings, 0, 1, 1);
    due("a ring with one tooth more doesn't", Check.plant("g4 10 0;g0 9 0;m0 1;").locked(), 1);
    speed(Check.plant("g4 10 3;g0 9 3;m0 1;"), 3, 0, 1);
  }

  /** Two ways to one SHAFT: 98 by 99 and 97 by 98 differ by 1 in 9702. */
  private static void lockedByTheLeast() {
    String ways = "g0 97 0;g0 98 1;g0 98 1;g0 99 2;m0 1;m2 3;";
    GearTeeth same = Check.plant(ways + "g0 97 0;g4 99 2;m4 5;");
    due("two ways, one speed", same.locked(), 0);
    speed(same, 2, 97, 99);
    GearTeeth other = Check.plant(ways + "g0 96 0;g4 98 2;m4 5;");
    due("two ways that differ by little", other.locked(), 1);
    speed(other, 2, FAR - 3, FAR - 3);
    due("nothing turns then", other.count(6), 0);
    GearTeeth sign = Check.plant(ways + "g0 97 0;g0 99 2;m4 5;");
    due("two ways that differ by their sign", sign.locked(), 1);
    String far = "g0 99 0;g0 98 1;g0 99 1;g0 98 2;g0 99 2;g0 98 3;m0 1;m2 3;m4 5;";
    due("four ways round, one speed", Check.plant(far + "g0 99 0;g4 98 1;").locked(), 0);
    GearTeeth round = Check.plant(far + "g0 99 3;g0 98 2;m6 7;");
    due("there and back, alike", round.locked(), 1);
    GearTeeth back = Check.plant(far + "g0 98 3;g0 99 2;m6 7;");
    due("there and back", back.locked(), 0);
    speed(back, 3, -970299, 941192);
  }

  private static void lockedOnlyWithShaftNought() {
    String three = "g0 9 1;g0 9 2;g0 9 3;m0 1;m1 2;m2 0;";
    GearTeeth x = Check.plant(three);
    due("three that lock, away from shaft 0", x.locked(), 0);
    speed(x, 0, 1, 1);
    for (int shaft = 1; shaft <= 3; shaft++) {
      speed(x, shaft, 0, 1);
    }
    for (int shaft = 4; shaft <= 7; shaft++) {
      free(x, shaft);
    }
    due("turned", x.count(6), 4);
    due("shaft 0 comes to them", Check.say(x, "g0 9 0;m3 2;"), 2);
    due("locked", x.locked(), 1);
    for (int shaft = 0; shaft < 8; shaft++) {
      speed(x, shaft, FAR - 3, FAR - 3);
    }
    due("none is turned", x.count(6), 0);
    due("a ring of four", Check.plant("g0 9 0;g0 9 1;g0 9 2;g0 9 3;m0 1;m1 2;m2 3;m3 0;").locked(), 0);
  }

  /** "(0, where it can only stand)": so does all that hangs on it, from the first SHAFT to the last. */
  private static void whatHangsOnWhatStands() {
    GearTeeth x = Check.plant("g0 9 1;g0 10 4;g0 11 7;m1 2;m0 1;g0 9 7;g0 8 7;m3 4;");
    for (int shaft = 1; shaft <= 7; shaft++) {
      if (shaft == 1 || shaft == 4 || shaft == 7) {
        speed(x, shaft, 0, 1);
      } else {
        free(x, shaft);
      }
    }
    due("turned", x.count(6), 4);
    GearTeeth free = Check.plant("g0 9 1;g0 10 4;g0 11 7;m1 2;m0 1;");
    free(free, 1);
    free(free, 4);
    free(free, 7);
    due("turned", free.count(6), 1);
  }

  /** "SPEED is told as a fraction in least terms, below the line above 0." */
  private static void leastTerms() {
    speed(Check.plant("g0 99 0;g0 99 1;m0 1;"), 1, -1, 1);
    speed(Check.plant("g0 4 0;g0 99 1;m0 1;"), 1, -4, 99);
    speed(Check.plant("g0 99 0;g0 4 1;m0 1;"), 1, -99, 4);
    speed(Check.plant("g0 96 0;g0 72 1;m0 1;"), 1, -4, 3);
    for (int common : new int[] {2, 3, 5, 7, 11, 13}) {
      speed(Check.plant("g0 " + 7 * common + " 0;g4 " + 5 * common + " 1;m0 1;"), 1, 7, 5);
      speed(Check.plant("g0 " + 2 * common + " 0;g0 9 1;g0 9 1;g4 " + 3 * common + " 2;m0 1;m2 3;"), 2, -2, 3);
    }
    speed(Check.plant("g0 98 0;g4 49 1;m0 1;"), 1, 2, 1);
    speed(Check.plant("g0 49 0;g4 98 1;m0 1;"), 1, 1, 2);
    speed(Check.plant("g0 6 0;g0 35 1;g0 10 1;g0 21 2;m0 1;m2 3;"), 2, 4, 49);
    speed(Check.plant("g0 6 0;g0 35 1;g0 35 1;g0 6 2;m0 1;m2 3;"), 2, 1, 1);
  }

  /** 12 GEARS drive six times from SHAFT to SHAFT: the greatest SPEED, the least, and what goes beyond an int. */
  private static void farSpeeds() {
    StringBuilder up = new StringBuilder();
    StringBuilder down = new StringBuilder();
    for (int shaft = 0; shaft < 6; shaft++) {
      up.append("g0 97 ").append(shaft).append(";g0 4 ").append(shaft + 1).append(';');
      down.append("g0 4 ").append(shaft).append(";g0 97 ").append(shaft + 1).append(';');
    }
    String meshes = "m10 11;m8 9;m6 7;m4 5;m2 3;m0 1;";
    long most = 97L * 97 * 97 * 97 * 97 * 97;
    GearTeeth x = Check.plant(up.toString());
    due("meshes", Check.say(x, meshes), 6);
    speed(x, 6, most, 4096);
    speed(x, 5, -most / 97, 1024);
    free(x, 7);
    GearTeeth y = Check.plant(down.toString());
    due("meshes", Check.say(y, meshes), 6);
    speed(y, 6, 4096, most);
    speed(y, 5, -1024, most / 97);
  }

  /** One GEAR a SHAFT, each with the next: SHAFT 7 hangs on SHAFT 0 by seven MESHES, told in any order. */
  private static void allShafts() {
    String gears = "g0 97 0;g0 5 1;g0 6 2;g0 7 3;g0 8 4;g0 9 5;g0 10 6;g0 89 7;";
    String[] orders = {"m0 1;m1 2;m2 3;m3 4;m4 5;m5 6;m6 7;", "m7 6;m6 5;m5 4;m4 3;m3 2;m2 1;m1 0;",
        "m3 4;m0 1;m6 7;m2 1;m5 4;m3 2;m5 6;"};
    int[] teeth = {97, 5, 6, 7, 8, 9, 10, 89};
    for (String order : orders) {
      GearTeeth x = Check.plant(gears);
      due(order, Check.say(x, order), 7);
      for (int shaft = 1; shaft < 8; shaft++) {
        speed(x, shaft, shaft % 2 == 0 ? 97 : -97, teeth[shaft]);
      }
      due("all turn", x.count(6), 8);
      due("none more", x.locked(), 0);
      due("first and last, an even ring", Check.say(x, "m0 7;"), 1);
      due("keeps all that", x.locked(), 0);
      due("first and last but one, an odd ring", Check.say(x, "m0 6;"), 1);
      due("locks", x.locked(), 1);
    }
  }

  /** "the least number of TURNS of the first one (1 or more) behind which the same teeth meet again". */
  private static void huntsAtTheEdges() {
    GearTeeth x = Check.plant("g0 4 0;g0 99 0;g4 8 0;g4 99 1;g0 98 1;g0 9 1;");
    int[][] told = {{0, 1, 99, 0}, {1, 0, 4, 0}, {0, 2, 2, 6}, {2, 0, 1, 3}, {1, 3, 1, 98}, {3, 1, 1, 98},
        {1, 4, 98, 0}, {4, 1, 99, 0}, {5, 1, 11, 88}, {1, 5, 1, 8}, {0, 4, 49, 49}, {4, 0, 2, 2}};
    for (int[] t : told) {
      due("hunt " + t[0] + " " + t[1], x.hunt(t[0], t[1], 0), t[2]);
      due("missed " + t[0] + " " + t[1], x.hunt(t[0], t[1], 1), t[3]);
    }
    due("the last two", x.hunt(5, 4, 0), 98);
    due("one behind the last", x.hunt(5, 6, 0), -1);
    due("one behind the last", x.hunt(6, 5, 0), -1);
  }

  private static void huntsAreLeast() {
    for (int first = 4; first <= 99; first += 5) {
      GearTeeth x = Check.plant("g0 " + first + " 0;");
      for (int second = 4; second <= 99; second += 10) {
        due("one more", Check.say(x, "g0 " + second + " 0;"), 1);
        int turns = 1;
        while (turns * first % second != 0) {
          turns++;
        }
        int gear = x.count(0) - 1;
        due("hunt of " + first + " and " + second, x.hunt(0, gear, 0), turns);
        due("missed of " + first + " and " + second, x.hunt(0, gear, 1), second - turns);
      }
    }
  }

  /** By each of the four words of "MAY": the last that may, and the first that may not. */
  private static void planetsAtTheEdges() {
    GearTeeth x = new GearTeeth();
    int[][] told = {
        {20, 28, 1, 4}, {20, 27, 1, -4}, {20, 26, 1, -4}, {20, 20, 1, -4}, {20, 12, 1, -4}, {28, 20, 1, -4},
        {20, 29, 1, -4}, {20, 30, 1, 5}, {4, 12, 1, 4}, {4, 11, 1, -4}, {91, 99, 1, 4}, {92, 99, 1, -4},
        {4, 99, 1, -4}, {5, 99, 1, 47}, {99, 4, 1, -4},
        {20, 28, 12, 4}, {18, 30, 12, -4}, {20, 28, 11, -4}, {20, 28, 8, 4}, {20, 28, 9, -4}, {20, 28, 7, -4},
        {14, 22, 9, 4}, {13, 23, 9, -4}, {8, 16, 6, 4}, {7, 17, 6, -4}, {9, 27, 6, -4}, {12, 24, 6, 6},
        {4, 12, 4, 4}, {4, 12, 8, -4}, {4, 16, 4, -4}, {4, 16, 2, 6}, {5, 15, 4, 5}, {6, 14, 5, 4}, {5, 15, 5, -4}};
    for (int[] t : told) {
      due("planets " + t[0] + " " + t[1] + " " + t[2], x.planets(t[0], t[1], t[2]), t[3]);
    }
    int[][] most = {{20, 28, 12}, {18, 30, 8}, {20, 26, -4}, {20, 27, -4}, {91, 99, 10}, {92, 99, -4},
        {4, 12, 4}, {4, 16, 2}, {99, 99, -4}, {4, 4, -4}, {99, 4, -4}, {5, 99, 2}, {86, 94, 12}, {4, 98, 3}};
    for (int[] t : most) {
      due("most " + t[0] + " " + t[1], x.most(t[0], t[1]), t[2]);
    }
  }

  /** For all s and r in range, and all n. */
  private static void planetsByTheWords() {
    for (int i = 0; i < 3 * 96; i++) {
      int s = 4 + i / 3;
      GearTeeth x = new GearTeeth();
      for (int r = 4 + i % 3; r <= 99; r += 3) {
        int most = -4;
        for (int n = 1; n <= 12; n++) {
          boolean even = r - s >= 8 && (r - s) % 2 == 0;
          int theirs = (r - s) / 2;
          boolean may = even && (s + r) % n == 0 && n * (theirs + 2) <= 3 * (s + theirs);
          due("planets " + s + " " + r + " " + n, x.planets(s, r, n), may ? theirs : -4);
          most = may ? n : most;
        }
        due("most " + s + " " + r, x.most(s, r), most);
      }
    }
  }
}
