import java.math.BigInteger;
import java.util.ArrayList;
import java.util.Arrays;
import java.util.Collections;
import java.util.Comparator;
import java.util.HashMap;
import java.util.List;
import java.util.Map;
import java.util.TreeSet;
import java.util.regex.Matcher;
import java.util.regex.Pattern;

/**
 * The document once more, written apart from the class: it tries all there is (every day, every
 * set, every pair) where the class reckons, so that the two hardly share a slip.
 */
public final class PlainAlmanac {
  private static final Pattern GRAMMAR = Pattern.compile("(?:d\\d{8};|t\\d{3};|s\\d{2};)+");

  /** KINDS under one another, as the document tells them. */
  private static class Kind {
    int lasts(int f) { return 10 + f; }
    int own(int f) { return lasts(f); }
    int size(int f) { return 10; }
    int guilt(int f) { return 0; }
    int cost(int f) { return 3; }
    int failure(int f) { return f == 0 ? -15 : f; }
  }

  private static class Good extends Kind {
    @Override int lasts(int f) { return super.lasts(f) / 2; }
    @Override int own(int f) { return 3 * lasts(f); }
    @Override int size(int f) { return super.size(f) - 4; }
    @Override int guilt(int f) { return super.guilt(f) - 1; }
    @Override int cost(int f) { return super.cost(f) + f; }
    @Override int failure(int f) { return f == 0 ? -15 : 100 + f; }
  }

  private static class Unkind extends Kind {
    @Override int lasts(int f) { return 4 * super.lasts(f); }
    @Override int own(int f) { return lasts(f) / 2; }
    @Override int size(int f) { return super.size(f) + 2; }
    @Override int guilt(int f) { return f + 1; }
    @Override int cost(int f) { return 7; }
  }

  private static class Loss extends Kind {
    @Override int lasts(int f) { return super.lasts(f) + 30; }
    @Override int cost(int f) { return super.cost(f) + 2; }
  }

  private static class Wind extends Kind {
    @Override int lasts(int f) { return f; }
    @Override int size(int f) { return f; }
    @Override int cost(int f) { return 1; }
    @Override int failure(int f) { return -15; }
  }

  private static class Proud extends Good {
    @Override int lasts(int f) { return super.lasts(f) + 20; }
    @Override int own(int f) { return 365; }
    @Override int size(int f) { return 2 * super.size(f); }
    @Override int guilt(int f) { return super.guilt(f) - 2; }
    @Override int cost(int f) { return super.cost(f) + 5; }
  }

  private static class Shame extends Unkind {
    @Override int lasts(int f) { return super.lasts(f) / 2; }
    @Override int own(int f) { return 0; }
    @Override int guilt(int f) { return 2 * super.guilt(f); }
    @Override int cost(int f) { return super.cost(f) / 2; }
    @Override int failure(int f) { return -15; }
  }

  private static class Hand extends Good {
    @Override int lasts(int f) { return super.lasts(f) + 1; }
    @Override int size(int f) { return super.size(f) - 1; }
    @Override int cost(int f) { return 2 * super.cost(f); }
    @Override int failure(int f) { return f == 0 ? -15 : 200 + cost(f); }
  }

  private static final Kind[] KINDS = {
    new Kind(), new Good(), new Unkind(), new Loss(), new Wind(), new Proud(), new Shame(), new Hand()
  };

  private record Told(int kind, int figure, int day, int who, TreeSet<Integer> seen) {
    Kind law() { return KINDS[kind]; }
    int lasts() { return law().lasts(figure); }
    int own() { return law().own(figure); }
    int size() { return law().size(figure); }
    boolean has(int p) { return p == who || seen.contains(p); }
    Told again() { return new Told(kind, figure, day, who, new TreeSet<>(seen)); }
    Told on(int other) { return new Told(kind, figure, other, who, seen); }
    boolean kept(int p, int today) {
      if (day > today || !has(p)) {
        return false;
      }
      return today - day <= (p == who ? own() : lasts());
    }
  }

  /** kind >= 0: a KIND; sort >= 0: a ROW; neither: nothing. */
  private static final class Held {
    int kind = -1;
    int figure;
    int sort = -1;
    int[] cells = {};
  }

  private List<Told> deeds = new ArrayList<>();
  private int today = 365;
  private List<Told> heldDeeds;
  private int heldToday;
  private final Held[] shelves = new Held[8];

  public PlainAlmanac() {
    Arrays.setAll(shelves, d -> new Held());
  }

  private static boolean in(int x, int low, int high) {
    return low <= x && x <= high;
  }

  private boolean isDeed(int k) {
    return in(k, 0, deeds.size() - 1);
  }

  private int wantRow(int d) {
    if (!in(d, 0, 7)) {
      return -1;
    }
    if (shelves[d].kind < 0 && shelves[d].sort < 0) {
      return -11;
    }
    return shelves[d].sort < 0 ? -12 : 0;
  }

  private int wantKind(int d) {
    int refusal = wantRow(d);
    return refusal == -12 ? 0 : refusal == 0 ? -12 : refusal;
  }

  private static List<Told> again(List<Told> all) {
    List<Told> copies = new ArrayList<>();
    for (Told one : all) {
      copies.add(one.again());
    }
    return copies;
  }

  private static TreeSet<Integer> people(int bits) {
    TreeSet<Integer> people = new TreeSet<>();
    for (int p = 0; p < 5; p++) {
      if ((bits & 1 << p) != 0) {
        people.add(p);
      }
    }
    return people;
  }

  private static int bits(Iterable<Integer> numbers) {
    int bits = 0;
    for (int i : numbers) {
      bits |= 1 << i;
    }
    return bits;
  }

  // ---- the year as told

  public int year(int d) {
    int refusal = wantRow(d);
    if (refusal != 0) {
      return refusal;
    }
    if (shelves[d].sort != 0) {
      return -12;
    }
    StringBuilder signs = new StringBuilder();
    for (int cell : shelves[d].cells) {
      signs.append((char) (cell & 255));
    }
    String text = signs.toString();
    for (int end = 1; end <= text.length(); end++) {
      Matcher start = GRAMMAR.matcher(text.substring(0, end));
      if (!start.matches() && !start.hitEnd()) {
        return -1000 - (end - 1);
      }
    }
    if (!GRAMMAR.matcher(text).matches()) {
      return -1000 - text.length();
    }
    List<Told> deedsBefore = again(deeds);
    int todayBefore = today;
    int at = 0;
    String[] statements = text.split(";");
    for (String statement : statements) {
      if (!tell(statement)) {
        deeds = deedsBefore;
        today = todayBefore;
        return -2000 - at;
      }
      at += statement.length() + 1;
    }
    return statements.length;
  }

  private boolean tell(String s) {
    if (s.startsWith("t")) {
      int day = Integer.parseInt(s.substring(1));
      if (day <= 365) {
        today = day;
      }
      return day <= 365;
    }
    if (s.startsWith("s")) {
      return sees(s.charAt(1) - '0', s.charAt(2) - '0') >= 0;
    }
    int kind = s.charAt(1) - '0';
    int day = Integer.parseInt(s.substring(3, 6));
    int who = s.charAt(6) - '0';
    int seen = Integer.parseInt(s.substring(7));
    if (kind > 7 || day > 364 || who > 4 || seen > 31 || people(seen).contains(who)) {
      return false;
    }
    if (deeds.size() == 10) {
      return false;
    }
    deeds.add(new Told(kind, s.charAt(2) - '0', day, who, people(seen)));
    return true;
  }

  public int deed(int k, int what) {
    if (!isDeed(k) || !in(what, 0, 7)) {
      return -1;
    }
    Told t = deeds.get(k);
    int[] all = {t.kind, t.figure, t.day, t.who, bits(t.seen), t.lasts(), t.own(), t.size()};
    return all[what];
  }

  public int guilt(int k) {
    return isDeed(k) ? deeds.get(k).law().guilt(deeds.get(k).figure) : 1000000001;
  }

  public int done(int d, int day, int who, int seen) {
    if (!in(d, 0, 7) || !in(day, 0, 364) || !in(who, 0, 4) || !in(seen, 0, 31)) {
      return -1;
    }
    int refusal = wantKind(d);
    if (refusal != 0) {
      return refusal;
    }
    if (deeds.size() > 9) {
      return -2;
    }
    TreeSet<Integer> watchers = people(seen);
    watchers.remove(who);
    deeds.add(new Told(shelves[d].kind, shelves[d].figure, day, who, watchers));
    return deeds.size() - 1;
  }

  public int sees(int k, int p) {
    if (!isDeed(k) || !in(p, 0, 4)) {
      return -1;
    }
    if (deeds.get(k).who == p) {
      return -3;
    }
    if (deeds.get(k).seen.remove(p)) {
      return 0;
    }
    deeds.get(k).seen.add(p);
    return 1;
  }

  public int today(int v) {
    if (!in(v, 0, 365)) {
      return -1;
    }
    int before = today;
    today = v;
    return before;
  }

  // ---- who remembers

  private TreeSet<Integer> memory(int p, int day) {
    TreeSet<Integer> all = new TreeSet<>();
    for (int k = 0; k < deeds.size(); k++) {
      if (deeds.get(k).kept(p, day)) {
        all.add(k);
      }
    }
    return all;
  }

  private static TreeSet<Integer> keepers(Told deed, int day) {
    TreeSet<Integer> all = new TreeSet<>();
    for (int p = 0; p < 5; p++) {
      if (deed.kept(p, day)) {
        all.add(p);
      }
    }
    return all;
  }

  public int remembers(int p, int k) {
    if (!in(p, 0, 4) || !isDeed(k)) {
      return -1;
    }
    return memory(p, today).contains(k) ? 1 : 0;
  }

  public int knows(int p) {
    return in(p, 0, 4) ? bits(memory(p, today)) : -1;
  }

  private int toldAndKeptBy(int many) {
    int bits = 0;
    for (int k = 0; k < deeds.size(); k++) {
      if (deeds.get(k).day <= today && keepers(deeds.get(k), today).size() == many) {
        bits |= 1 << k;
      }
    }
    return bits;
  }

  public int forgotten() {
    return toldAndKeptBy(0);
  }

  public int only() {
    return toldAndKeptBy(1);
  }

  public int forgets(int p, int k) {
    if (!in(p, 0, 4) || !isDeed(k)) {
      return -1;
    }
    if (!deeds.get(k).kept(p, today)) {
      return -3;
    }
    for (int day = today; day <= 365; day++) {
      if (!deeds.get(k).kept(p, day)) {
        return day;
      }
    }
    return -4;
  }

  public int witnesses() {
    TreeSet<Integer> all = new TreeSet<>();
    for (int p = 0; p < 5; p++) {
      all.addAll(memory(p, today));
    }
    for (int many = 0; many <= 5; many++) {
      for (int group = 0; group < 32; group++) {
        TreeSet<Integer> together = new TreeSet<>();
        for (int p : people(group)) {
          together.addAll(memory(p, today));
        }
        if (people(group).size() == many && together.equals(all)) {
          return group;
        }
      }
    }
    throw new AssertionError("all together know all");
  }

  // ---- pages

  private List<List<Integer>> book() {
    List<List<Integer>> book = new ArrayList<>();
    List<Integer> page = new ArrayList<>();
    for (int k : order()) {
      int points = deeds.get(k).size();
      for (int other : page) {
        points += deeds.get(other).size();
      }
      if (!page.isEmpty() && points > 30) {
        book.add(page);
        page = new ArrayList<>();
      }
      page.add(k);
    }
    if (!page.isEmpty()) {
      book.add(page);
    }
    return book;
  }

  private List<Integer> order() {
    List<Integer> order = new ArrayList<>();
    for (int k = 0; k < deeds.size(); k++) {
      if (deeds.get(k).day <= today) {
        order.add(k);
      }
    }
    order.sort(Comparator.<Integer>comparingInt(k -> deeds.get(k).day)
        .thenComparingInt(k -> -deeds.get(k).size())
        .thenComparingInt(k -> k));
    return order;
  }

  private int pageOf(int k) {
    for (int page = 0; page < book().size(); page++) {
      if (book().get(page).contains(k)) {
        return page;
      }
    }
    return -4;
  }

  public int place(int k, int what) {
    if (!isDeed(k) || !in(what, 0, 1)) {
      return -1;
    }
    int at = order().indexOf(k);
    return at < 0 ? -4 : what == 0 ? at : pageOf(k);
  }

  public int pages() {
    return book().size();
  }

  public int looksUp(int p, int what) {
    if (!in(p, 0, 4) || !in(what, 0, 1)) {
      return -1;
    }
    List<Integer> his = new ArrayList<>(order());
    his.removeIf(k -> deeds.get(k).who != p);
    if (his.isEmpty()) {
      return what == 0 ? -4 : 0;
    }
    his.sort(Comparator.comparingInt(k -> -deeds.get(k).size()));
    int page = pageOf(his.get(0));
    List<Integer> news = new ArrayList<>(book().get(page));
    news.removeIf(k -> !deeds.get(k).has(p) || deeds.get(k).kept(p, today));
    return what == 0 ? page : bits(news);
  }

  public int uncut(int n, int what) {
    if (!in(n, 0, 9) || !in(what, 0, 1)) {
      return -1;
    }
    List<List<Integer>> book = book();
    TreeSet<Integer> blameless = people(31);
    List<Integer> hidden = new ArrayList<>();
    for (int page = 0; page < book.size(); page++) {
      if (book.size() - page <= n) {
        hidden.addAll(book.get(page));
      } else {
        book.get(page).forEach(k -> blameless.remove(deeds.get(k).who));
      }
    }
    return what == 0 ? bits(hidden) : bits(blameless);
  }

  private int guiltOf(int p) {
    int sum = 0;
    for (int k : order()) {
      sum += deeds.get(k).who == p ? guilt(k) : 0;
    }
    return sum;
  }

  public int guilty(int g) {
    if (!in(g, -30, 99)) {
      return -1;
    }
    TreeSet<Integer> buyers = people(31);
    buyers.removeIf(p -> guiltOf(p) < g);
    return bits(buyers);
  }

  public int price(int what) {
    if (!in(what, 0, 1)) {
      return -1;
    }
    int[] taken = new int[100];
    for (int g = 1; g < 100; g++) {
      taken[g] = g * people(guilty(g)).size();
    }
    int best = 1;
    for (int g = 99; g > 0; g--) {
      best = taken[g] >= taken[best] ? g : best;
    }
    return what == 0 ? best : taken[best];
  }

  // ---- diaries, laws

  private int wantDiary(int d) {
    int refusal = wantRow(d);
    if (refusal != 0) {
      return refusal;
    }
    int[] cells = shelves[d].cells;
    if (cells.length % 2 == 1) {
      return -13;
    }
    for (int i = 0; i < cells.length; i++) {
      if (i % 2 == 0 ? !isDeed(cells[i]) : !in(cells[i], 0, 364)) {
        return -13;
      }
    }
    return 0;
  }

  private Map<Integer, List<Integer>> daysTold(int d) {
    Map<Integer, List<Integer>> told = new HashMap<>();
    int[] cells = shelves[d].cells;
    for (int i = 0; i < cells.length; i += 2) {
      told.computeIfAbsent(cells[i], k -> new ArrayList<>()).add(cells[i + 1]);
    }
    return told;
  }

  public int slips(int d, int what) {
    if (!in(d, 0, 7) || !in(what, 0, 1)) {
      return -1;
    }
    int refusal = wantDiary(d);
    if (refusal != 0) {
      return refusal;
    }
    int struck = 0;
    int off = 0;
    for (Map.Entry<Integer, List<Integer>> told : daysTold(d).entrySet()) {
      List<Integer> days = told.getValue();
      int fewest = days.size();
      for (int stays : days) {
        fewest = Math.min(fewest, days.size() - Collections.frequency(days, stays));
      }
      struck += fewest;
      off += days.size() - Collections.frequency(days, deeds.get(told.getKey()).day);
    }
    return what == 0 ? struck : off;
  }

  public int trueDay(int d, int k) {
    if (!in(d, 0, 7) || !isDeed(k)) {
      return -1;
    }
    int refusal = wantDiary(d);
    if (refusal != 0) {
      return refusal;
    }
    List<Integer> days = daysTold(d).getOrDefault(k, new ArrayList<>());
    int best = -4;
    for (int day : new TreeSet<>(days)) {
      if (best == -4 || Collections.frequency(days, day) > Collections.frequency(days, best)) {
        best = day;
      }
    }
    return best;
  }

  public int mayBe(int k, int what) {
    if (!isDeed(k) || !in(what, 0, 1)) {
      return -1;
    }
    List<Integer> days = new ArrayList<>();
    for (int day = 0; day <= today && day <= 364; day++) {
      if (keepers(deeds.get(k).on(day), today).equals(keepers(deeds.get(k), today))) {
        days.add(day);
      }
    }
    return what == 0 ? days.size() : days.isEmpty() ? -4 : days.get(0);
  }

  private List<Integer> numbers(int d) {
    int[] skipped = {-128, -32768, Integer.MIN_VALUE};
    List<Integer> numbers = new ArrayList<>();
    for (int cell : shelves[d].cells) {
      numbers.add(cell == skipped[shelves[d].sort] ? null : cell);
    }
    return numbers;
  }

  public int law(int d, int v, int what) {
    if (!in(d, 0, 7) || !in(what, 0, 1) || !in(v, 0, what == 0 ? 9 : 7)) {
      return -1;
    }
    int refusal = wantRow(d);
    if (refusal != 0) {
      return refusal;
    }
    TreeSet<Integer> fit = new TreeSet<>();
    for (int kind = 0; kind < 8; kind++) {
      for (int figure = 0; figure < 10; figure++) {
        TreeSet<Integer> told = new TreeSet<>();
        numbers(d).stream().filter(n -> n != null).forEach(told::add);
        told.remove(KINDS[kind].lasts(figure));
        if (told.isEmpty() && v == (what == 0 ? figure : kind)) {
          fit.add(what == 0 ? kind : figure);
        }
      }
    }
    return bits(fit);
  }

  public int leastInIt(int n, int what) {
    if (!in(n, 0, 10) || !in(what, 0, 1)) {
      return -1;
    }
    int best = -1;
    int least = Integer.MAX_VALUE;
    for (int undone = 0; undone < 1 << deeds.size(); undone++) {
      int sizes = 0;
      for (int k : order()) {
        sizes += (undone >> k & 1) == 0 ? deeds.get(k).size() : 0;
      }
      if (Integer.bitCount(undone) <= n && sizes < least) {
        least = sizes;
        best = undone;
      }
    }
    return what == 0 ? best : least;
  }

  public int robin(int p) {
    if (!in(p, 0, 4)) {
      return -1;
    }
    int best = -4;
    int most = 1;
    for (int k = deeds.size() - 1; k >= 0; k--) {
      TreeSet<Integer> lost = new TreeSet<>(deeds.get(k).seen);
      lost.removeAll(keepers(deeds.get(k), today));
      if (deeds.get(k).who == p && deeds.get(k).day <= today && lost.size() >= most) {
        most = lost.size();
        best = k;
      }
    }
    return best;
  }

  public int two(int x, int y) {
    if (!in(x, 0, 79) || !in(y, 0, 79)) {
      return -1;
    }
    int a = KINDS[x / 10].guilt(x % 10);
    int b = KINDS[y / 10].guilt(y % 10);
    int[][] his = {{0, 0}, {3 - a, 1 - a}};
    int[][] others = {{0, 3 - b}, {0, 1 - b}};
    for (int i = 0; i < 2; i++) {
      for (int j = 0; j < 2; j++) {
        if (his[i][j] >= his[1 - i][j] && others[i][j] >= others[i][1 - j]) {
          return 10 * i + j;
        }
      }
    }
    return -4;
  }

  private static long part(BigInteger above, BigInteger below, int part) {
    BigInteger divisor = above.gcd(below);
    return (part == 0 ? above : below).divide(divisor).longValueExact();
  }

  /** Of t to the n cases those in which k or more see it, told one by one for each of n. */
  private static BigInteger cases(int n, int t, int k) {
    if (n == 0) {
      return k <= 0 ? BigInteger.ONE : BigInteger.ZERO;
    }
    return cases(n - 1, t, k - 1).add(BigInteger.valueOf(t - 1).multiply(cases(n - 1, t, k)));
  }

  public long chance(int n, int t, int k, int part) {
    if (!in(n, 0, 8) || !in(t, 2, 20) || !in(k, 0, 8) || !in(part, 0, 1)) {
      return 1000000001L;
    }
    return part(cases(n, t, k), BigInteger.valueOf(t).pow(n), part);
  }

  public long mean(int part) {
    if (!in(part, 0, 1)) {
      return 1000000001L;
    }
    int told = order().size();
    return told == 0 ? part : part(BigInteger.valueOf(count(2)), BigInteger.valueOf(told), part);
  }

  public int gap(int what) {
    if (!in(what, 0, 1)) {
      return -1;
    }
    int last = Math.min(today, 364);
    int most = 0;
    int first = -4;
    for (int from = 0; from <= last; from++) {
      int free = 0;
      while (from + free <= last && isFree(from + free)) {
        free++;
      }
      if (free > most) {
        most = free;
        first = from;
      }
    }
    return what == 0 ? most : first;
  }

  private boolean isFree(int day) {
    return deeds.stream().noneMatch(t -> t.day == day);
  }

  public int quarrel() {
    int best = -4;
    int most = 0;
    for (int pair = 1; pair < 45; pair++) {
      int a = pair / 10;
      int b = pair % 10;
      int many = 0;
      for (Told t : deeds) {
        many += t.has(a) && t.has(b) && t.kept(a, today) != t.kept(b, today) ? 1 : 0;
      }
      if (a < b && b < 5 && many > most) {
        most = many;
        best = pair;
      }
    }
    return best;
  }

  // ---- told pages

  public int forged(int d) {
    int refusal = wantRow(d);
    if (refusal != 0) {
      return refusal;
    }
    List<Integer> told = new ArrayList<>();
    for (int cell : shelves[d].cells) {
      told.add(cell);
    }
    List<Integer> order = order();
    for (int i = 0; i < told.size(); i++) {
      if (i >= order.size() || !told.get(i).equals(order.get(i))) {
        return i;
      }
    }
    return -4;
  }

  public int judge(int d, int p) {
    if (!in(d, 0, 7) || !in(p, 0, 4)) {
      return -1;
    }
    int refusal = wantRow(d);
    if (refusal != 0) {
      return refusal;
    }
    int day = today;
    List<Integer> numbers = numbers(d);
    for (int i = 0; i < numbers.size(); i++) {
      if (numbers.get(i) != null && numbers.get(i) != memory(p, day).size()) {
        return i;
      }
      day = day == 365 ? 365 : day + 1;
    }
    return -4;
  }

  public int years(int n, int z, int what) {
    if (!in(n, 1, 20) || !in(what, 0, 1)) {
      return -1;
    }
    int[] bounds = {8, 10, 365, 5, 32};
    long state = z & 0xFFFFFFFFL;
    int lost = 0;
    int sizes = 0;
    for (int i = 0; i < 10 * n; i++) {
      int[] drawn = new int[5];
      for (int j = 0; j < 5; j++) {
        state = (state * 1103515245L + 12345L) & 0xFFFFFFFFL;
        drawn[j] = (int) ((state & 0x7FFFFFFFL) >> 16) % bounds[j];
      }
      TreeSet<Integer> seen = people(drawn[4]);
      seen.remove(drawn[3]);
      Told deed = new Told(drawn[0], drawn[1], drawn[2], drawn[3], seen);
      lost += keepers(deed, 365).isEmpty() ? 1 : 0;
      sizes += deed.size();
    }
    return what == 0 ? lost : sizes;
  }

  // ---- the image, what is told

  public int image() {
    heldDeeds = again(deeds);
    heldToday = today;
    return deeds.size();
  }

  public int restore() {
    if (heldDeeds == null) {
      return -3;
    }
    deeds = again(heldDeeds);
    today = heldToday;
    return deeds.size();
  }

  public int count(int what) {
    switch (what) {
      case 0: return deeds.size();
      case 1: return today;
      case 2: return order().stream().mapToInt(k -> deeds.get(k).size()).sum();
      case 3: return order().size();
      case 4: return deeds.stream().mapToInt(Told::lasts).sum();
      case 5: return deeds.stream().mapToInt(t -> t.seen.size()).sum();
      default: return -1;
    }
  }

  // ---- shelves

  public int keep(int d, int what, int k, int figure) {
    if (!in(d, 0, 7) || !in(what, 0, 1) || what == 1 && (!in(k, 0, 7) || !in(figure, 0, 9))) {
      return -1;
    }
    shelves[d] = new Held();
    if (what == 1) {
      shelves[d].kind = k;
      shelves[d].figure = figure;
    }
    return 0;
  }

  public int row(int d, int sort, int n) {
    if (!in(d, 0, 7) || !in(sort, 0, 2) || n > 100) {
      return -1;
    }
    if (n < 0) {
      return -14;
    }
    shelves[d] = new Held();
    shelves[d].sort = sort;
    shelves[d].cells = new int[n];
    return 0;
  }

  public int put(int d, int i, int v) {
    int refusal = wantRow(d);
    if (refusal != 0) {
      return refusal;
    }
    if (!in(i, 0, shelves[d].cells.length - 1)) {
      return -13;
    }
    int unused = new int[] {24, 16, 0}[shelves[d].sort];
    shelves[d].cells[i] = v << unused >> unused;
    return 0;
  }

  public long element(int d, int i) {
    if (!in(d, 0, 7)) {
      throw new IllegalArgumentException();
    }
    if (wantRow(d) != 0 || !in(i, 0, shelves[d].cells.length - 1)) {
      throw new IllegalStateException();
    }
    return shelves[d].cells[i];
  }

  public int copy(int d, int i, int e, int j, int n) {
    if (!in(d, 0, 7) || !in(e, 0, 7)) {
      return -1;
    }
    if (wantRow(d) == -11 || wantRow(e) == -11) {
      return -11;
    }
    if (wantRow(d) != 0 || wantRow(e) != 0 || shelves[d].sort != shelves[e].sort) {
      return -12;
    }
    long endFrom = (long) i + n;
    long endTo = (long) j + n;
    boolean isThere = i >= 0 && j >= 0 && n >= 0;
    if (!isThere || endFrom > shelves[d].cells.length || endTo > shelves[e].cells.length) {
      return -13;
    }
    int[] moved = Arrays.copyOfRange(shelves[d].cells, i, i + n);
    for (int at = 0; at < n; at++) {
      shelves[e].cells[j + at] = moved[at];
    }
    return n;
  }

  public int cost(int d) {
    int refusal = wantKind(d);
    return refusal != 0 ? refusal : KINDS[shelves[d].kind].cost(shelves[d].figure);
  }

  public int toss(int d) {
    int refusal = wantKind(d);
    return refusal != 0 ? refusal : KINDS[shelves[d].kind].failure(shelves[d].figure);
  }
}
