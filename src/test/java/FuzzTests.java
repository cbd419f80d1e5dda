import java.lang.reflect.InvocationTargetException;
import java.lang.reflect.Method;
import java.util.Arrays;
import java.util.Comparator;
import java.util.Random;

/** Any numbers in any state: no call throws but `element`, and that only what the document says. */
public final class FuzzTests {
  private static final int[] EDGES = {0, 1, 2, 3, -1, -2, 7, 8, 11, 12, 15, 16, 31, 32, 60, 61, 62, 63, 99, 100, 108,
      119, 120, 121, 200, 999, 1000, 3208, 3217, 9999, 10000, Integer.MAX_VALUE, Integer.MIN_VALUE,
      Integer.MAX_VALUE - 1, Integer.MIN_VALUE + 1};
  private static final String[] TEXTS = {"g0 9 0;g4 50 1;g2 7 2;m0 1;m2 1;", "e>1|!(g<0&l>9)", "x", "",
      "g3 99 7;g1 4 6;m3 4;d3 4 9;", "((((((((r=1"};

  public static void main(String[] args) {
    Method[] calls = calls();
    for (int seed = 0; seed < 500; seed++) {
      run(calls, new Random(seed), seed);
    }
    Check.end();
  }

  /** In an order that doesn't change from machine to machine. */
  private static Method[] calls() {
    Method[] calls = GearTeeth.class.getDeclaredMethods();
    calls = Arrays.stream(calls).filter(m -> (m.getModifiers() & 1) != 0).toArray(Method[]::new);
    Arrays.sort(calls, Comparator.comparing(Method::getName));
    return calls;
  }

  private static void run(Method[] calls, Random random, int seed) {
    GearTeeth x = new GearTeeth();
    // an object is used for at most 512 calls; preparing takes fewer than 50
    for (int asked = 0; asked < 460; asked++) {
      if (random.nextInt(20) == 0) {
        asked += prepare(x, random);
      }
      Method call = calls[random.nextInt(calls.length)];
      Object[] numbers = new Object[call.getParameterCount()];
      for (int k = 0; k < numbers.length; k++) {
        numbers[k] = number(random);
      }
      String told = "seed " + seed + " " + call.getName() + Arrays.toString(numbers);
      Check.holds(told, endsAsTold(x, call, numbers));
    }
  }

  /** How many calls it took. */
  private static int prepare(GearTeeth x, Random random) {
    int d = random.nextInt(8);
    if (random.nextBoolean()) {
      String text = TEXTS[random.nextInt(TEXTS.length)];
      Check.write(x, d, text);
      x.text(d);
      return text.length() + 2;
    }
    x.row(d, 0, random.nextBoolean() ? 16 : random.nextInt(121));
    for (int i = 0; i < 16; i++) {
      x.put(d, i, random.nextInt(2));
    }
    return 17;
  }

  private static int number(Random random) {
    int sort = random.nextInt(10);
    return sort == 0 ? random.nextInt() : sort < 4 ? EDGES[random.nextInt(EDGES.length)] : random.nextInt(8);
  }

  private static boolean endsAsTold(GearTeeth x, Method call, Object[] numbers) {
    try {
      call.invoke(x, numbers);
      return true;
    } catch (InvocationTargetException e) {
      Class<?> thrown = e.getCause().getClass();
      return call.getName().equals("element")
          && (thrown == IllegalArgumentException.class || thrown == IllegalStateException.class);
    } catch (IllegalAccessException e) {
      return false;
    }
  }
}
