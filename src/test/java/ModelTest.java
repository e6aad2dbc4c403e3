import java.lang.reflect.InvocationTargetException;
import java.lang.reflect.Method;
import java.util.ArrayList;
import java.util.Arrays;
import java.util.Comparator;
import java.util.List;
import java.util.Random;

/** Runs of 512 drawn calls on the class and on PlainAlmanac: every answer must be the same. */
public final class ModelTest {
  private static final int RUNS = 3000;
  private static final int CALLS = 512;
  private static final int[] STRANGE = {
    Integer.MIN_VALUE, Integer.MIN_VALUE + 1, -32768, -1000, -129, -128, -31, -30, -2, -1, 0, 1, 2, 3, 4,
    5, 7, 8, 9, 10, 11, 20, 21, 30, 31, 32, 63, 64, 79, 80, 99, 100, 101, 127, 128, 255, 256, 364, 365,
    366, 32767, 65536, Integer.MAX_VALUE - 1, Integer.MAX_VALUE
  };

  private final Random random;
  private final AlmanacOfTheYearGone almanac = new AlmanacOfTheYearGone();
  private final PlainAlmanac model = new PlainAlmanac();
  private final List<String> calls = new ArrayList<>();
  private String wrong;

  private ModelTest(long seed) {
    random = new Random(seed);
  }

  public static void main(String[] args) {
    int wrongRuns = 0;
    for (long seed = 0; seed < RUNS; seed++) {
      ModelTest run = new ModelTest(seed);
      run.play();
      if (run.wrong != null) {
        wrongRuns++;
        System.out.println("run " + seed + ": " + run.wrong);
        System.out.println("  " + run.calls);
      }
      if (wrongRuns == 3) {
        break;
      }
    }
    System.out.println(wrongRuns == 0 ? RUNS + " runs are as due" : "runs are not as due");
    if (wrongRuns != 0) {
      System.exit(1);
    }
  }

  private static List<Method> face() {
    List<Method> face = new ArrayList<>();
    for (Method method : AlmanacOfTheYearGone.class.getDeclaredMethods()) {
      if (java.lang.reflect.Modifier.isPublic(method.getModifiers())) {
        face.add(method);
      }
    }
    face.sort(Comparator.comparing(Method::getName));
    return face;
  }

  private static final List<Method> FACE = face();

  private void play() {
    while (wrong == null && calls.size() < CALLS) {
      switch (random.nextInt(12)) {
        case 0: case 1: doDeed(); break;
        case 2: tellText(); break;
        case 3: tellRow(); break;
        case 4: call("today", random.nextInt(366)); break;
        case 5: shiftToday(); break;
        default: callAny(); break;
      }
    }
  }

  private int below(int bound) {
    return random.nextInt(bound);
  }

  /** Days crowd together, so that deeds share days and are remembered still. */
  private int someDay() {
    return below(3) == 0 ? below(365) : Math.max(0, Math.min(364, model.count(1) - below(below(2) == 0 ? 4 : 70)));
  }

  private void doDeed() {
    int d = below(8);
    call("keep", d, 1, below(8), below(10));
    call("done", d, someDay(), below(5), below(32));
  }

  private void shiftToday() {
    call("today", Math.max(0, Math.min(365, model.count(1) + below(41) - 20)));
  }

  private void tellText() {
    StringBuilder text = new StringBuilder();
    int statements = below(4);
    for (int i = 0; i <= statements; i++) {
      switch (below(3)) {
        case 0: {
          int who = below(below(20) == 0 ? 10 : 5);
          int seen = below(below(20) == 0 ? 100 : 32) & (below(20) == 0 ? ~0 : ~(1 << who));
          int day = below(20) == 0 ? below(1000) : someDay();
          text.append(String.format("d%d%d%03d%d%02d;", below(below(20) == 0 ? 10 : 8), below(10), day, who, seen));
          break;
        }
        case 1: text.append(String.format("t%03d;", below(20) == 0 ? below(1000) : below(366))); break;
        default: text.append(String.format("s%d%d;", below(Math.max(1, model.count(0)) + below(2)), below(5) + below(20) / 19)); break;
      }
    }
    if (below(4) == 0) {
      text.setCharAt(below(text.length()), ";dts0159 :/".charAt(below(11)));
    }
    if (below(8) == 0) {
      text.setLength(below(text.length() + 1));
    }
    int d = below(8);
    int length = Math.min(100, text.length());
    call("row", d, 0, length);
    for (int i = 0; i < length; i++) {
      call("put", d, i, (int) text.charAt(i) + (below(60) == 0 ? 256 : 0));
    }
    call("year", d);
  }

  private void tellRow() {
    int d = below(8);
    int deeds = Math.max(1, model.count(0));
    int sort = below(3);
    int least = new int[] {-128, -32768, Integer.MIN_VALUE}[sort];
    int n = below(9);
    switch (below(4)) {
      case 0:
        call("row", d, sort, 2 * n);
        for (int i = 0; i < 2 * n; i++) {
          call("put", d, i, i % 2 == 0 ? below(deeds) : below(3) * 40 + below(2));
        }
        call("slips", d, below(2));
        call("trueDay", d, below(deeds));
        break;
      case 1:
        tellOrder(d, sort);
        break;
      case 2: {
        int lasts = below(2) == 0 ? below(50) : 10 + below(10);
        call("row", d, sort, n);
        for (int i = 0; i < n; i++) {
          call("put", d, i, below(4) == 0 ? least : below(30) == 0 ? lasts + 1 : lasts);
        }
        call("law", d, below(10), 0);
        call("law", d, below(8), 1);
        break;
      }
      default: {
        int p = below(5);
        call("row", d, sort, n);
        for (int i = 0; i < n; i++) {
          call("put", d, i, below(3) == 0 ? least : Integer.bitCount(model.knows(p)));
        }
        call("judge", d, p);
        break;
      }
    }
  }

  private void tellOrder(int d, int sort) {
    int told = model.count(3);
    int n = Math.max(0, told + (below(4) == 0 ? below(3) - 1 : 0));
    call("row", d, sort, n);
    for (int k = 0; k < model.count(0); k++) {
      int at = model.place(k, 0);
      if (at >= 0 && at < n && below(20) != 0) {
        call("put", d, at, k);
      }
    }
    call("forged", d);
  }

  private void callAny() {
    Method method = FACE.get(below(FACE.size()));
    int[] arguments = new int[method.getParameterCount()];
    int[] small = {2, 5, 8, 10, 10, 32, 80, 100};
    for (int i = 0; i < arguments.length; i++) {
      arguments[i] = below(12) == 0 ? STRANGE[below(STRANGE.length)] : below(small[below(small.length)]);
    }
    call(method.getName(), arguments);
  }

  private void call(String name, int... arguments) {
    if (wrong != null) {
      return;
    }
    String call = name + Arrays.toString(arguments);
    calls.add(call);
    String got = answer(almanac, name, arguments);
    String due = answer(model, name, arguments);
    if (!got.equals(due)) {
      wrong = call + " answered " + got + ", due is " + due;
    }
  }

  private static String answer(Object asked, String name, int[] arguments) {
    Object[] boxed = new Object[arguments.length];
    Class<?>[] types = new Class<?>[arguments.length];
    for (int i = 0; i < arguments.length; i++) {
      boxed[i] = arguments[i];
      types[i] = int.class;
    }
    try {
      return asked.getClass().getMethod(name, types).invoke(asked, boxed).toString();
    } catch (InvocationTargetException thrown) {
      return "throws." + thrown.getCause().getClass().getSimpleName();
    } catch (ReflectiveOperationException missing) {
      return "cannot be called: " + missing;
    }
  }
}
