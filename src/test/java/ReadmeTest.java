import java.io.IOException;
import java.lang.reflect.InvocationTargetException;
import java.lang.reflect.Method;
import java.net.URL;
import java.net.URLClassLoader;
import java.nio.file.Files;
import java.nio.file.Path;
import java.util.ArrayList;
import java.util.List;
import java.util.Set;
import java.util.TreeSet;
import java.util.regex.Matcher;
import java.util.regex.Pattern;
import java.util.stream.Stream;
import javax.tools.JavaCompiler;
import javax.tools.ToolProvider;

/** README.md is so of the class: its Java is compiled and run, and its names are looked for. */
public final class ReadmeTest {
  private static final Path README = Path.of("README.md");
  private static final Path TESTS = Path.of("src/test/java");
  private static final Pattern CALL = Pattern.compile("(?:int (\\w+) = )?(year\\.\\w+\\(.*?\\)); *(?:// (.*))?");
  private static final Pattern ANSWER = Pattern.compile("(-?\\d+|throws \\w+)(?::.*)?");
  private static final Pattern NAME = Pattern.compile("`(\\w+)`");

  private static int wrong = 0;
  private static int looked = 0;

  private static void must(boolean holds, String what) {
    looked++;
    if (!holds) {
      wrong++;
      System.out.println("README.md: " + what);
    }
  }

  /** Called by the lines of README.md as theExample writes them down. */
  public static void due(String call, String got, String want) {
    must(got.equals(want), call + " answered " + got + ", told is " + want);
  }

  public static void main(String[] args) throws IOException, ReflectiveOperationException {
    List<String> lines = Files.readAllLines(README);
    run(theExample(lines));
    theClasses(lines);
    theTests(lines);
    theNumbers(String.join("\n", lines));
    System.out.println(wrong == 0 ? looked + " places of README.md are so" : wrong + " faults");
    if (wrong != 0) {
      System.exit(1);
    }
  }

  /** All lines of Java, one behind the other, each call that tells its answer held against it. */
  private static String theExample(List<String> lines) {
    StringBuilder code = new StringBuilder("public final class Example {\n  public static void main(String[] args) {\n");
    boolean isJava = false;
    int told = 0;
    for (String line : lines) {
      if (line.startsWith("```")) {
        isJava = line.equals("```java");
      } else if (isJava) {
        Matcher call = CALL.matcher(line);
        boolean isTold = call.matches();
        told += isTold ? 1 : 0;
        code.append(isTold ? lookedAt(line, call) : line).append('\n');
      }
    }
    must(told > 20, "only " + told + " calls tell what they answer");
    return code.append("  }\n}\n").toString();
  }

  private static String lookedAt(String line, Matcher call) {
    Matcher answer = ANSWER.matcher(String.valueOf(call.group(3)));
    if (!answer.matches()) {
      must(false, "\"" + line + "\" does not tell what it answers");
      return line;
    }
    String made = call.group(2);
    String want = answer.group(1);
    String shown = "\"" + made.replace("\"", "\\\"") + "\"";
    if (want.startsWith("throws ")) {
      return "{ String got; try { got = \"\" + " + made + "; } catch (RuntimeException thrown) {"
          + " got = \"throws \" + thrown.getClass().getSimpleName(); }"
          + " ReadmeTest.due(" + shown + ", got, \"" + want + "\"); }";
    }
    String kept = call.group(1) == null ? "" : "int " + call.group(1) + " = " + made + "; ";
    String got = call.group(1) == null ? made : call.group(1);
    return kept + "ReadmeTest.due(" + shown + ", \"\" + " + got + ", \"" + want + "\");";
  }

  private static void run(String code) throws IOException, ReflectiveOperationException {
    Path out = Files.createTempDirectory("readme");
    try {
      Path source = out.resolve("Example.java");
      Files.writeString(source, code);
      JavaCompiler compiler = ToolProvider.getSystemJavaCompiler();
      String path = System.getProperty("java.class.path");
      int failed = compiler.run(null, null, null, "-cp", path, "-proc:none", "-d", out.toString(), source.toString());
      must(failed == 0, "its Java does not compile:\n" + code);
      if (failed == 0) {
        runMain(out);
      }
    } finally {
      for (String name : List.of("Example.java", "Example.class")) {
        Files.deleteIfExists(out.resolve(name));
      }
      Files.deleteIfExists(out);
    }
  }

  private static void runMain(Path out) throws IOException, ReflectiveOperationException {
    try (URLClassLoader loader = new URLClassLoader(new URL[] {out.toUri().toURL()})) {
      Method main = loader.loadClass("Example").getMethod("main", String[].class);
      main.invoke(null, (Object) new String[0]);
    } catch (InvocationTargetException thrown) {
      must(false, "its Java throws " + thrown.getCause());
    }
  }

  private static void theClasses(List<String> lines) {
    Set<String> told = new TreeSet<>();
    for (String line : lines) {
      Matcher name = NAME.matcher(line);
      while (line.startsWith("| `") && name.find()) {
        told.add(name.group(1));
      }
    }
    Set<String> made = new TreeSet<>();
    for (Class<?> inside : AlmanacOfTheYearGone.class.getDeclaredClasses()) {
      made.add(inside.getSimpleName());
    }
    must(told.equals(made), "the classes told are " + told + ", there are " + made);
  }

  private static void theTests(List<String> lines) throws IOException {
    Set<String> told = new TreeSet<>();
    for (String line : lines) {
      Matcher name = NAME.matcher(line);
      if (line.startsWith("- `") && name.find()) {
        told.add(name.group(1));
      }
    }
    Set<String> made = new TreeSet<>();
    try (Stream<Path> files = Files.list(TESTS)) {
      List<Path> all = new ArrayList<>(files.toList());
      all.removeIf(file -> !file.toString().endsWith("Test.java"));
      all.forEach(file -> made.add(file.getFileName().toString().replace(".java", "")));
    }
    must(told.equals(made), "the tests told are " + told + ", there are " + made);
  }

  private static void theNumbers(String readme) throws IOException {
    String model = Files.readString(TESTS.resolve("ModelTest.java"));
    Matcher runs = Pattern.compile("RUNS = (\\d+);\\s.* CALLS = (\\d+);").matcher(model);
    must(runs.find() && readme.contains(runs.group(1) + " runs of " + runs.group(2) + " drawn calls"), "other runs of ModelTest");
    must(Files.isExecutable(Path.of(".ci/run")), ".ci/run cannot be run");
  }
}
