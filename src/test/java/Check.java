/** What all tests of the project use: it counts answers that are not as due, and fills SHELVES. */
final class Check {
  private static int wrong = 0;
  private static int asked = 0;

  private Check() {
  }

  static void due(String call, long got, long want) {
    asked++;
    if (got != want) {
      wrong++;
      if (wrong <= 50) {
        System.out.println(call + " answered " + got + ", due is " + want);
      }
    }
  }

  static void holds(String what, boolean isSo) {
    due(what, isSo ? 1 : 0, 1);
  }

  /** Ends the test; with exit code 1 if an answer was not the one that is due. */
  static void end() {
    System.out.println(asked + " answers, " + wrong + " not as due");
    if (wrong != 0) {
      System.exit(1);
    }
  }

  /** Puts a text into a SHELF as a ROW of bytes. */
  static void write(GearTeeth x, int d, String text) {
    due("row", x.row(d, 0, text.length()), 0);
    for (int i = 0; i < text.length(); i++) {
      due("put", x.put(d, i, text.charAt(i)), 0);
    }
  }

  static void fill(GearTeeth x, int d, int sort, int... elements) {
    due("row", x.row(d, sort, elements.length), 0);
    for (int i = 0; i < elements.length; i++) {
      due("put", x.put(d, i, elements[i]), 0);
    }
  }

  /** Reads a text by way of SHELF 7. */
  static int say(GearTeeth x, String text) {
    write(x, 7, text);
    return x.text(7);
  }

  static GearTeeth plant(String text) {
    GearTeeth x = new GearTeeth();
    holds("reads " + text, say(x, text) > 0);
    return x;
  }
}
