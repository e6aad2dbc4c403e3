import java.lang.annotation.ElementType;
import java.lang.annotation.Retention;
import java.lang.annotation.RetentionPolicy;
import java.lang.annotation.Target;
import java.lang.reflect.InvocationTargetException;
import java.lang.reflect.Method;
import java.util.ArrayList;
import java.util.Arrays;
import java.util.HashMap;
import java.util.List;
import java.util.Map;

/**
 * What the tests of boundaries share. Each of their methods holds one sentence of the document: its
 * name begins with the number of the promise (p00: what is said ahead of the promises), and Says
 * has the sentence's own words.
 */
public abstract class Boundaries {
  @Retention(RetentionPolicy.RUNTIME)
  @Target(ElementType.METHOD)
  public @interface Says {
    int promise();

    String words();
  }

  protected static final int MIN = Integer.MIN_VALUE;
  protected static final int MAX = Integer.MAX_VALUE;
  /** -1 of guilt, chance and mean. */
  protected static final int REFUSED = 1000000001;
  protected static final String NO_SHELF = "throws.IllegalArgumentException";
  protected static final String NO_PLACE = "throws.IllegalStateException";

  private static final int MOST_CALLS = 512;
  private static final Map<String, Method> FACE = new HashMap<>();

  static {
    for (Method method : AlmanacOfTheYearGone.class.getDeclaredMethods()) {
      FACE.put(method.getName(), method);
    }
  }

  private record Call(String name, int[] args) {
    @Override public String toString() {
      return name + Arrays.toString(args);
    }
  }

  /** An object, and how often it was called: what it answers after 512 calls is free. */
  private static final class Played {
    private final AlmanacOfTheYearGone object = new AlmanacOfTheYearGone();
    private int calls = 0;

    private String answer(Call call) {
      calls++;
      if (calls > MOST_CALLS) {
        throw new IllegalStateException("a test plays over 512 calls");
      }
      Object[] boxed = Arrays.stream(call.args).boxed().toArray();
      try {
        return FACE.get(call.name).invoke(object, boxed).toString();
      } catch (InvocationTargetException thrown) {
        return "throws." + thrown.getCause().getClass().getSimpleName();
      } catch (IllegalAccessException hidden) {
        throw new IllegalStateException(hidden);
      }
    }

    private String answer(String name, int... args) {
      return answer(new Call(name, args));
    }
  }

  private Played x = new Played();
  private final List<Call> history = new ArrayList<>();
  private final List<String> faults = new ArrayList<>();
  private String about = "";
  private int looked = 0;

  final List<String> faults() {
    return faults;
  }

  final int looked() {
    return looked;
  }

  // ---- calls that the object of the test gets

  protected final void anew() {
    history.clear();
    x = new Played();
  }

  protected final void play(String name, int... args) {
    Call call = new Call(name, args);
    history.add(call);
    x.answer(call);
  }

  /** Plays a call whose answer must be as told. */
  protected final void due(Object want, String name, int... args) {
    Call call = new Call(name, args);
    history.add(call);
    look(call, x.answer(call), want);
  }

  // ---- calls that only another object gets, to which the same has happened

  /** A call would be answered so now; the test's object does not get it. */
  protected final void would(Object want, String name, int... args) {
    Call call = new Call(name, args);
    look(call, again().answer(call), want);
  }

  /** A call would be refused so now, and all would be as it is without that call. */
  protected final void refused(Object want, String name, int... args) {
    Call call = new Call(name, args);
    Played refusing = again();
    look(call, refusing.answer(call), want);
    List<String> with = all(refusing);
    List<String> without = all(again());
    if (!with.equals(without)) {
      faults.add(about + call + " changes " + without + " into " + with);
    }
  }

  /** One argument (whatever it is in args) at both ends of its range, then beyond each. */
  protected final void range(
      String name, int[] args, int at, int low, Object atLow, int high, Object atHigh, Object beyond) {
    would(atLow, name, with(args, at, low));
    would(atHigh, name, with(args, at, high));
    for (int out : new int[] {low - 1, high + 1, MIN, MAX}) {
      refused(beyond, name, with(args, at, out));
    }
  }

  /** Likewise what a text in SHELF 7 would be answered; a FAULT changes nothing. */
  protected final void tells(int want, String text) {
    List<Call> before = new ArrayList<>(history);
    about = text + ": ";
    text(7, text);
    if (want < 0) {
      refused(want, "year", 7);
    } else {
      would(want, "year", 7);
    }
    about = "";
    history.clear();
    history.addAll(before);
    x = again();
  }

  // ---- what many tests begin with

  protected static int[] args(int... args) {
    return args;
  }

  protected final void row(int d, int sort, int... cells) {
    play("row", d, sort, cells.length);
    for (int i = 0; i < cells.length; i++) {
      play("put", d, i, cells[i]);
    }
  }

  protected final void text(int d, String text) {
    row(d, 0, text.chars().toArray());
  }

  /** By SHELF 6. */
  protected final void deed(int kind, int figure, int day, int who, int seen) {
    play("keep", 6, 1, kind, figure);
    play("done", 6, day, who, seen);
  }

  /** DEEDS of 0 on the days from 0 on, which 1 saw. */
  protected final void deeds(int many) {
    play("keep", 6, 1, 0, 0);
    for (int k = 0; k < many; k++) {
      play("done", 6, k, 0, 2);
    }
  }

  /** SHELF 0 holds nothing, 1 a GOOD with FIGURE 2, 2 to 4 ROWS of bytes, shorts, ints: a pair each. */
  protected final void shelves() {
    play("keep", 0, 0, 0, 0);
    play("keep", 1, 1, 1, 2);
    row(2, 0, 0, 100);
    row(3, 1, 1, 200);
    row(4, 2, 2, 204);
  }

  /**
   * Three DEEDS, on 210: 0 did a DEED with 3 on 100, which all forgot; 3 an UNKIND with 1 on 200,
   * which he, 0 and 4 REMEMBER; 2 a GOOD with 4 on 204, which he and 3 REMEMBER. Their SIZES 10, 12
   * and 6 are one PAGE. THE IMAGE has the first two, and another TODAY.
   */
  protected final void someYear() {
    deed(0, 3, 100, 0, 6);
    deed(2, 1, 200, 3, 17);
    play("today", 201);
    play("image");
    deed(1, 4, 204, 2, 8);
    play("today", 210);
    shelves();
  }

  // ---- inside

  private void look(Call call, String got, Object want) {
    looked++;
    if (!got.equals(want.toString())) {
      faults.add(about + call + " answered " + got + ", due is " + want);
    }
  }

  private Played again() {
    Played again = new Played();
    for (Call call : history) {
      again.answer(call);
    }
    return again;
  }

  private static int[] with(int[] args, int at, int value) {
    int[] changed = args.clone();
    changed[at] = value;
    return changed;
  }

  /** All that the face tells of an object, which is of no use any more then. */
  private static List<String> all(Played object) {
    List<String> all = new ArrayList<>();
    addYear(all, object);
    for (int d = 0; d < 8; d++) {
      all.add("shelf " + d + " costs " + object.answer("cost", d) + " fails " + object.answer("toss", d));
      addCells(all, object, d);
    }
    all.add("image " + object.answer("restore"));
    addYear(all, object);
    for (int d = 0; d < 8; d++) {
      addSort(all, object, d);
    }
    return all;
  }

  private static void addYear(List<String> all, Played object) {
    for (int what = 0; what < 6; what++) {
      all.add("count " + what + " " + object.answer("count", what));
    }
    int deeds = Integer.parseInt(object.answer("count", 0));
    for (int k = 0; k < deeds; k++) {
      for (int what = 0; what < 5; what++) {
        all.add("deed " + k + " " + what + " " + object.answer("deed", k, what));
      }
    }
  }

  private static void addCells(List<String> all, Played object, int d) {
    for (int i = 0; i <= 100; i++) {
      String cell = object.answer("element", d, i);
      all.add("element " + d + " " + i + " " + cell);
      if (cell.startsWith("throws")) {
        return;
      }
    }
  }

  /** A ROW's SORT by the lowest bits that it keeps, a KIND and its FIGURE by a DEED of it. */
  private static void addSort(List<String> all, Played object, int d) {
    object.answer("put", d, 0, 100000);
    all.add("sort " + d + " " + object.answer("element", d, 0));
    all.add("as the next " + d + " " + object.answer("copy", d, 0, (d + 1) % 8, 0, 0));
    String k = object.answer("done", d, 0, 0, 0);
    if (!k.startsWith("-")) {
      int number = Integer.parseInt(k);
      all.add("kind " + d + " " + object.answer("deed", number, 0) + object.answer("deed", number, 1));
    }
  }
}
