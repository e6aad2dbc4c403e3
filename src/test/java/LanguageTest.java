import java.io.IOException;
import java.lang.reflect.Constructor;
import java.lang.reflect.Field;
import java.lang.reflect.Member;
import java.lang.reflect.Method;
import java.lang.reflect.Modifier;
import java.nio.file.Files;
import java.nio.file.Path;
import java.util.ArrayList;
import java.util.Arrays;
import java.util.List;
import java.util.Set;
import java.util.TreeSet;
import java.util.regex.Matcher;
import java.util.regex.Pattern;

/** The face of the class is the document's, and its file keeps to what LANGUAGE.md leaves of Java. */
public final class LanguageTest {
  private static final Path SOURCE = Path.of("src/main/java/AlmanacOfTheYearGone.java");
  private static final Path DOCUMENT = Path.of("../shared/DOC.md");
  private static final Pattern FACE_LINE = Pattern.compile(" {4}public (int|long) (\\w+)\\(([^)]*)\\)(.*);");
  private static final Pattern METHOD = Pattern.compile("^( +)(?:public |private |static |final )*(\\w+ )?(\\w+)\\(([^)]*)\\)[^;]*\\{$");

  private static final Pattern INDEX = Pattern.compile("(?<!new )\\b(\\w+)\\[(?!\\])");
  private static final Pattern LOOP = Pattern.compile("\\bfor \\([^;]*;[^;]*; (.*)\\) \\{$");

  private static int wrong = 0;

  private static void must(boolean holds, String what) {
    if (!holds) {
      wrong++;
      System.out.println(what);
    }
  }

  public static void main(String[] args) throws IOException {
    List<Class<?>> classes = new ArrayList<>();
    classes.add(AlmanacOfTheYearGone.class);
    classes.addAll(Arrays.asList(AlmanacOfTheYearGone.class.getDeclaredClasses()));
    Set<String> names = theFace();
    theMembers(classes, names);
    List<String> lines = Files.readAllLines(SOURCE);
    theWords(lines);
    theMethods(lines);
    theLoops(lines);
    System.out.println(wrong == 0 ? "the class keeps to its face and language" : wrong + " faults");
    if (wrong != 0) {
      System.exit(1);
    }
  }

  private static Set<String> theFace() throws IOException {
    Set<String> wanted = new TreeSet<>();
    Set<String> names = new TreeSet<>();
    for (String line : Files.readAllLines(DOCUMENT)) {
      Matcher call = FACE_LINE.matcher(line);
      if (call.matches()) {
        int parameters = call.group(3).isEmpty() ? 0 : call.group(3).split(",").length;
        wanted.add(call.group(1) + " " + call.group(2) + " " + parameters + call.group(4).replace(" throws ", " ").replace(",", ""));
        names.add(call.group(2));
      }
    }
    must(wanted.size() == 42, "the document tells 42 calls, not " + wanted.size());
    Set<String> found = new TreeSet<>();
    for (Method method : AlmanacOfTheYearGone.class.getDeclaredMethods()) {
      if (Modifier.isPublic(method.getModifiers())) {
        StringBuilder thrown = new StringBuilder();
        for (Class<?> one : method.getExceptionTypes()) {
          thrown.append(' ').append(one.getSimpleName());
        }
        found.add(method.getReturnType() + " " + method.getName() + " " + method.getParameterCount() + thrown);
        for (Class<?> type : method.getParameterTypes()) {
          must(type == int.class, method + " takes other things than ints");
        }
      }
    }
    must(found.equals(wanted), "the face is " + found + ", due is " + wanted);
    Constructor<?>[] made = AlmanacOfTheYearGone.class.getDeclaredConstructors();
    must(made.length == 1 && Modifier.isPublic(made[0].getModifiers()) && made[0].getParameterCount() == 0, "constructors");
    int modifiers = AlmanacOfTheYearGone.class.getModifiers();
    must(Modifier.isFinal(modifiers) && Modifier.isPublic(modifiers), "the class is public and final");
    return names;
  }

  private static void theMembers(List<Class<?>> classes, Set<String> face) {
    must(classes.size() <= 12, "twelve classes at most");
    for (Class<?> one : classes) {
      boolean isMain = one == AlmanacOfTheYearGone.class;
      must(isMain || Modifier.isStatic(one.getModifiers()), one + " is not static");
      must(isMain || !Modifier.isPublic(one.getModifiers()) && !Modifier.isProtected(one.getModifiers()), one + " is seen");
      List<Member> members = new ArrayList<>();
      members.addAll(Arrays.asList(one.getDeclaredFields()));
      members.addAll(Arrays.asList(one.getDeclaredMethods()));
      for (Member member : members) {
        boolean isFace = isMain && Modifier.isPublic(member.getModifiers());
        must(isFace || Modifier.isPrivate(member.getModifiers()), member + " is seen");
        must(isFace || member instanceof Field || !face.contains(member.getName()), member + " bears a public name");
      }
      int own = 0;
      for (Field field : one.getDeclaredFields()) {
        boolean isConstant = Modifier.isStatic(field.getModifiers());
        own += isConstant ? 0 : 1;
        must(!isConstant || Modifier.isFinal(field.getModifiers()) && field.getType() == int.class, field + " is no constant");
      }
      must(own <= 20, one + " has over twenty fields");
      for (Method method : one.getDeclaredMethods()) {
        must(method.getParameterCount() <= 7, method + " takes over seven");
        must(!Modifier.isNative(method.getModifiers()) && !Modifier.isSynchronized(method.getModifiers()), method + "");
      }
    }
  }

  private static void theWords(List<String> lines) {
    String[] forbidden = {
      "package ", "import ", "->", "::", "finally", "synchronized", "assert", "@", "double", "float", "System.out",
      "Exact(", "getMessage", "static {", "Object", "RuntimeException", "IndexOutOfBounds", "NullPointer", "Throwable",
      "ArithmeticException", "ClassCast", "catch (Exception", "var ", "yield", "record ", "_VALUE", "\""
    };
    for (int i = 0; i < lines.size(); i++) {
      String line = lines.get(i);
      must(line.chars().allMatch(c -> c < 127), "line " + (i + 1) + " has other signs than ASCII's");
      must(line.length() <= 100, "line " + (i + 1) + " is long");
      String code = line.replaceAll("throw new \\w+\\(\"[^\"]*\"\\)", "").replaceAll("//.*|^ */\\*\\*.*", "");
      for (String word : forbidden) {
        must(!code.contains(word), "line " + (i + 1) + " has " + word);
      }
    }
  }

  /** Methods are short; only constructors make objects, so that no call makes any but its exception. */
  private static void theMethods(List<String> lines) {
    int seen = 0;
    for (int i = 0; i < lines.size(); i++) {
      Matcher head = METHOD.matcher(lines.get(i));
      if (!head.matches() || head.group(3).matches("if|for|while|switch|catch")) {
        continue;
      }
      seen++;
      boolean isConstructor = Character.isUpperCase(head.group(3).charAt(0));
      int end = i;
      while (!lines.get(end).equals(head.group(1) + "}")) {
        String code = lines.get(end).replace("throw new ", "");
        must(isConstructor || !code.contains("new "), "line " + (end + 1) + " makes an object");
        end++;
      }
      must(end - i < 60, head.group(3) + " is long");
      theIndexes(lines, i, end);
    }
    must(seen > 120, "methods were found: " + seen);
  }

  /** An index is looked at where it is used: the method names the length of the row, too. */
  private static void theIndexes(List<String> lines, int from, int to) {
    String body = String.join("\n", lines.subList(from, to));
    for (int i = from; i < to; i++) {
      Matcher use = INDEX.matcher(lines.get(i));
      while (use.find()) {
        boolean isLookedAt = body.contains(use.group(1) + ".length");
        must(isLookedAt, "line " + (i + 1) + " uses an index of " + use.group(1) + " that it does not look at");
      }
    }
  }

  /** A for ends by its own line: its counter goes on by a number that is written there. */
  private static void theLoops(List<String> lines) {
    int seen = 0;
    for (int i = 0; i < lines.size(); i++) {
      Matcher loop = LOOP.matcher(lines.get(i));
      if (loop.find()) {
        seen++;
        must(loop.group(1).matches("\\w+(?:\\+\\+|--| \\+= \\d+)"), "line " + (i + 1) + " goes on by " + loop.group(1));
      }
    }
    must(seen > 40, "loops were found: " + seen);
  }
}
