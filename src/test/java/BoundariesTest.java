import java.io.IOException;
import java.lang.reflect.InvocationTargetException;
import java.lang.reflect.Method;
import java.nio.file.Files;
import java.nio.file.Path;
import java.util.ArrayList;
import java.util.Arrays;
import java.util.Comparator;
import java.util.List;
import java.util.regex.Matcher;
import java.util.regex.Pattern;

/**
 * Runs the tests of boundaries, a new object each, and looks whether every place of the document
 * that names a boundary stands in the words of one of them.
 */
public final class BoundariesTest {
  private static final Path DOCUMENT = Path.of("../shared/DOC.md");
  private static final int PROMISES = 43;
  private static final List<Class<? extends Boundaries>> SECTIONS = List.of(
      TermsBoundaries.class, YearBoundaries.class, MemoryBoundaries.class, PagesBoundaries.class,
      DiariesBoundaries.class, ToldBoundaries.class, ImageBoundaries.class, ShelvesBoundaries.class);

  /** What names a boundary: a refusal, a range, or a word for what is at an edge or left out. */
  private static final Pattern BOUNDARY = Pattern.compile(
      "-\\d+|Illegal\\w+|\\w+ \\.\\. -?\\w+|\\bat (?:most|least|first)\\b|\\bor (?:more|fewer|ahead)\\b"
      + "|\\bof several\\b|\\bcut\\b|\\bmore than\\b|\\balone\\b|\\baside\\b|\\bno such\\b|\\bnothing\\b"
      + "|\\bskipped\\b|\\bthe (?:first|last|least|lesser|fewest|end|most|greatest)\\b|\\bbehind\\b"
      + "|\\blacks\\b|\\bno room\\b|\\bnot as it must be\\b|\\bjust\\b|\\bno more\\b|\\b[Ii]n least\\b"
      + "|\\bmost (?:often|of|days|DEEDS|\\()|\\bis full\\b|\\bfit\\b|\\bbelow\\b|\\btold again\\b|\\blowest\\b"
      + "|\\bdo not matter\\b|\\bstays?\\b|\\bmany DAYS\\b|\\bnot told\\b|\\bnot so\\b|\\bis none\\b|\\btoo\\b");

  /** Boundary words of the terms that tell of no input at an edge. */
  private static final List<String> OTHERWISE = List.of(
      "Almanac for the year just gone", "what all have forgotten", "the fewest slips that make it true",
      "a year so lived that least is in it", "what later calls answer is free",
      "throws IllegalArgumentException, IllegalStateException");

  private record Held(Method method, int promise, String words) { }

  private static int wrong = 0;
  private static int looked = 0;

  private static void fault(String what) {
    wrong++;
    System.out.println(what);
  }

  public static void main(String[] args) throws IOException, ReflectiveOperationException {
    List<Held> tests = new ArrayList<>();
    for (Class<? extends Boundaries> section : SECTIONS) {
      for (Method method : inOrder(section)) {
        Held held = held(method);
        if (held != null) {
          tests.add(held);
          run(section, held);
        }
      }
    }
    String[] parts = partsOfTheDocument();
    for (int promise = 0; promise <= PROMISES; promise++) {
      lookForWhatIsNotHeld(promise, parts, tests);
    }
    System.out.println(wrong == 0
        ? tests.size() + " sentences hold, " + looked + " answers are as due"
        : wrong + " faults");
    if (wrong != 0) {
      System.exit(1);
    }
  }

  private static Method[] inOrder(Class<?> section) {
    Method[] methods = section.getDeclaredMethods();
    Arrays.sort(methods, Comparator.comparing(Method::getName));
    return methods;
  }

  private static Held held(Method method) {
    Boundaries.Says says = method.getAnnotation(Boundaries.Says.class);
    boolean isNamed = method.getName().matches("p\\d\\d_.*");
    if (says == null) {
      if (isNamed) {
        fault(method.getName() + " does not tell what it holds");
      }
      return null;
    }
    if (!method.getName().startsWith(String.format("p%02d_", says.promise()))) {
      fault(method.getName() + " is not named by promise " + says.promise());
    }
    return new Held(method, says.promise(), says.words());
  }

  private static void run(Class<? extends Boundaries> section, Held test) throws ReflectiveOperationException {
    Boundaries run = section.getDeclaredConstructor().newInstance();
    String name = test.method.getName() + " (\"" + test.words + "\"): ";
    try {
      test.method.invoke(run);
    } catch (InvocationTargetException thrown) {
      fault(name + thrown.getCause());
    }
    for (String one : run.faults()) {
      fault(name + one);
    }
    if (run.looked() == 0) {
      fault(name + "looks at nothing");
    }
    looked += run.looked();
  }

  /** Part 0 is what stands ahead of the promises, from the terms on; part n is promise n. */
  private static String[] partsOfTheDocument() throws IOException {
    String document = Files.readString(DOCUMENT).replaceAll("\\s+", " ");
    String[] parts = new String[PROMISES + 1];
    int from = document.indexOf("An object is used for at most");
    for (int promise = 0; promise <= PROMISES; promise++) {
      String next = promise < PROMISES ? "## Promise " + (promise + 1) + ":" : "## Not promised";
      int to = document.indexOf(next);
      parts[promise] = document.substring(from, to);
      from = to;
    }
    return parts;
  }

  private static void lookForWhatIsNotHeld(int promise, String[] parts, List<Held> tests) {
    String part = parts[promise];
    boolean[] isHeld = new boolean[part.length()];
    int holding = 0;
    for (Held test : tests) {
      if (test.promise == promise) {
        holding++;
        if (!part.contains(test.words) && !parts[0].contains(test.words)) {
          fault(test.method.getName() + ": the document does not say \"" + test.words + "\"");
        }
      }
      // A test of a promise may hold a sentence of the terms, if it quotes enough to be found there.
      if (test.promise == promise || promise == 0 && test.words.length() >= 8) {
        mark(part, test.words, isHeld);
      }
    }
    if (holding == 0) {
      fault("no test holds promise " + promise);
    }
    for (String words : OTHERWISE) {
      mark(part, words, isHeld);
    }
    Matcher boundary = BOUNDARY.matcher(part);
    while (boundary.find()) {
      if (!isHeld[boundary.start()]) {
        int from = Math.max(0, boundary.start() - 40);
        int to = Math.min(part.length(), boundary.end() + 40);
        fault("promise " + promise + ": no test holds \"" + boundary.group() + "\" in \"" + part.substring(from, to) + "\"");
      }
    }
  }

  private static void mark(String part, String words, boolean[] isHeld) {
    boolean isNumber = words.matches("-\\d+");
    for (int at = part.indexOf(words); at >= 0; at = part.indexOf(words, at + 1)) {
      int end = at + words.length();
      boolean goesOn = isNumber && end < part.length() && Character.isDigit(part.charAt(end));
      if (!goesOn) {
        Arrays.fill(isHeld, at, end, true);
      }
    }
  }
}
