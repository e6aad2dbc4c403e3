/** Each promise of the document by answers reckoned by hand: ordinary ones, edges, refusals. */
public final class PromisesTest {
  private static final int REFUSED = 1000000001;
  private static final int MIN = Integer.MIN_VALUE;
  private static final int MAX = Integer.MAX_VALUE;

  private static int wrong = 0;
  private static int looked = 0;

  private AlmanacOfTheYearGone x = new AlmanacOfTheYearGone();
  private final int promise;

  private PromisesTest(int promise) {
    this.promise = promise;
  }

  private void due(String call, long got, long want) {
    looked++;
    if (got != want) {
      wrong++;
      System.out.println("promise " + promise + ": " + call + " answered " + got + ", due is " + want);
    }
  }

  private void anew() {
    x = new AlmanacOfTheYearGone();
  }

  private void layText(int d, String text) {
    x.row(d, 0, text.length());
    for (int i = 0; i < text.length(); i++) {
      x.put(d, i, text.charAt(i));
    }
  }

  private int tell(String text) {
    layText(7, text);
    return x.year(7);
  }

  private void lay(int d, int sort, int... cells) {
    x.row(d, sort, cells.length);
    for (int i = 0; i < cells.length; i++) {
      x.put(d, i, cells[i]);
    }
  }

  private int deed(int kind, int figure, int day, int who, int seen) {
    x.keep(6, 1, kind, figure);
    return x.done(6, day, who, seen);
  }

  /** Shelf 0 holds nothing, 1 a GOOD with 2, 2 a row of two bytes, 3 of two shorts, 4 of two ints. */
  private void fillShelves() {
    x.keep(0, 0, 0, 0);
    x.keep(1, 1, 1, 2);
    for (int sort = 0; sort < 3; sort++) {
      x.row(2 + sort, sort, 2);
    }
  }

  public static void main(String[] args) {
    new PromisesTest(1).newObject();
    new PromisesTest(2).year();
    new PromisesTest(2).yearFaults();
    new PromisesTest(3).deedAsTold();
    new PromisesTest(4).guilt();
    new PromisesTest(5).done();
    new PromisesTest(6).sees();
    new PromisesTest(7).today();
    new PromisesTest(8).remembers();
    new PromisesTest(9).knows();
    new PromisesTest(10).forgotten();
    new PromisesTest(11).forgets();
    new PromisesTest(12).only();
    new PromisesTest(13).witnesses();
    new PromisesTest(14).place();
    new PromisesTest(15).pages();
    new PromisesTest(16).looksUp();
    new PromisesTest(17).uncut();
    new PromisesTest(18).guilty();
    new PromisesTest(19).price();
    new PromisesTest(20).slips();
    new PromisesTest(21).trueDay();
    new PromisesTest(22).mayBe();
    new PromisesTest(23).law();
    new PromisesTest(24).leastInIt();
    new PromisesTest(25).robin();
    new PromisesTest(26).two();
    new PromisesTest(27).chance();
    new PromisesTest(28).mean();
    new PromisesTest(29).gap();
    new PromisesTest(30).quarrel();
    new PromisesTest(31).forged();
    new PromisesTest(32).judge();
    new PromisesTest(33).years();
    new PromisesTest(34).image();
    new PromisesTest(35).restore();
    new PromisesTest(36).count();
    new PromisesTest(36).fullYear();
    new PromisesTest(37).keep();
    new PromisesTest(38).row();
    new PromisesTest(39).put();
    new PromisesTest(40).element();
    new PromisesTest(41).copy();
    new PromisesTest(42).cost();
    new PromisesTest(43).toss();
    System.out.println(wrong == 0 ? looked + " answers are as due" : wrong + " answers are not as due");
    if (wrong != 0) {
      System.exit(1);
    }
  }

  private void newObject() {
    int[] counts = {0, 365, 0, 0, 0, 0};
    for (int what = 0; what < 6; what++) {
      due("count(" + what + ")", x.count(what), counts[what]);
    }
    for (int d = 0; d < 8; d++) {
      due("cost(" + d + ")", x.cost(d), -11);
    }
    due("deed(0, 0)", x.deed(0, 0), -1);
    due("knows(0)", x.knows(0), 0);
    due("restore()", x.restore(), -3);
  }

  private void year() {
    due("three statements", tell("d03350006;d14352113;t300;"), 3);
    due("kind", x.deed(0, 0), 0);
    due("figure", x.deed(0, 1), 3);
    due("day", x.deed(0, 2), 350);
    due("who", x.deed(0, 3), 0);
    due("seen", x.deed(0, 4), 6);
    due("kind", x.deed(1, 0), 1);
    due("figure", x.deed(1, 1), 4);
    due("day", x.deed(1, 2), 352);
    due("who", x.deed(1, 3), 1);
    due("seen", x.deed(1, 4), 13);
    due("today", x.count(1), 300);
    due("a text more", tell("d70000415;"), 1);
    due("comes behind the others", x.count(0), 3);
    due("the first day", x.deed(2, 2), 0);
    due("all others saw it", x.deed(2, 4), 15);
    due("seen", tell("s03;"), 1);
    due("so it was", x.deed(0, 4), 14);
    due("told again", tell("s03;s04;s03;s03;"), 4);
    due("not, and another", x.deed(0, 4), 22);
    due("on what those ahead made", tell("d00000000;s34;t000;t365;"), 4);
    due("seen of the new one", x.deed(3, 4), 16);
    due("the last today stays", x.count(1), 365);
    due("the text stays", x.element(7, 0), 'd');
    anew();
    due("ten", tell("d00000000;d00001000;d00002000;d00003000;d00004000;d00005000;d00006000;d00007000;d00008000;d00009000;"), 10);
    due("the last day", x.deed(9, 2), 9);
    due("no room", tell("t001;d00000000;"), -2005);
    due("nothing comes", x.count(1), 365);
    anew();
    due("highest", tell("d79364415;t365;t000;"), 3);
    due("a day told", x.deed(0, 2), 364);
    for (int d : new int[] {-1, 8, MIN, MAX}) {
      due("year(" + d + ")", x.year(d), -1);
    }
    fillShelves();
    due("nothing held", x.year(0), -11);
    due("a kind", x.year(1), -12);
    due("shorts", x.year(3), -12);
    due("ints", x.year(4), -12);
  }

  private void yearFaults() {
    due("no statement", tell(""), -1000);
    String[] texts = {
      "x", ";", "D00000000;", "d", "d0000000", "d00000000", "d000000000;", "d00000000;x", "d00000000;;",
      "t36;", "t3655;", "t00:", "t0/0;", "s0;", "s012;", "s01", "s01;t", "s01;t3", "d0000a000;", " s01;"
    };
    int[] places = {0, 0, 0, 1, 8, 9, 9, 10, 10, 3, 4, 3, 2, 2, 3, 3, 5, 6, 5, 0};
    for (int i = 0; i < texts.length; i++) {
      due(texts[i], tell(texts[i]), -1000 - places[i]);
    }
    due("kind 1 goes first", tell("t999;s99;x"), -1009);
    String[] wrongs = {
      "d80000000;", "d00365000;", "d00000500;", "d00000032;", "d00000001;", "d00000104;d00000102;",
      "t366;", "t000;t999;", "s00;", "d00000000;s00;", "d00000000;s05;", "d00000000;s10;t400;"
    };
    int[] letters = {0, 0, 0, 0, 0, 10, 0, 5, 0, 10, 10, 10};
    for (int i = 0; i < wrongs.length; i++) {
      due(wrongs[i], tell(wrongs[i]), -2000 - letters[i]);
      due("nothing comes of " + wrongs[i], x.count(0), 0);
      due("nor today", x.count(1), 365);
    }
    lay(0, 0, 's' - 128, '0', '1', ';');
    due("a byte below 0", x.year(0), -1000);
    tell("d00000000;");
    due("all or nothing", tell("s01;t005;s02;s00;"), -2013);
    due("not seen", x.deed(0, 4), 0);
    due("today stays", x.count(1), 365);
    String full = "t001;".repeat(20);
    due("a hundred bytes", tell(full), 20);
    due("one lacks", tell(full.substring(0, 99)), -1099);
  }

  private void deedAsTold() {
    int[][] all = {
      {0, 3, 13, 13, 10}, {0, 9, 19, 19, 10}, {1, 0, 5, 15, 6}, {1, 3, 6, 18, 6}, {2, 1, 44, 22, 12},
      {3, 2, 42, 42, 10}, {4, 0, 0, 0, 0}, {4, 7, 7, 7, 7}, {5, 5, 27, 365, 12}, {6, 3, 26, 0, 12},
      {7, 1, 6, 18, 5}, {7, 9, 10, 30, 5}
    };
    for (int[] one : all) {
      anew();
      deed(one[0], one[1], 100, 2, 27);
      due("kind", x.deed(0, 0), one[0]);
      due("figure", x.deed(0, 1), one[1]);
      due("day", x.deed(0, 2), 100);
      due("who", x.deed(0, 3), 2);
      due("seen", x.deed(0, 4), 27);
      due("lasts of " + one[0] + " with " + one[1], x.deed(0, 5), one[2]);
      due("own of " + one[0] + " with " + one[1], x.deed(0, 6), one[3]);
      due("size of " + one[0] + " with " + one[1], x.deed(0, 7), one[4]);
    }
    due("no such deed", x.deed(1, 0), -1);
    due("none below 0", x.deed(-1, 0), -1);
    due("what 8", x.deed(0, 8), -1);
    due("what -1", x.deed(0, -1), -1);
    due("least", x.deed(MIN, MIN), -1);
  }

  private void guilt() {
    int[][] all = {{0, 9, 0}, {1, 9, -1}, {2, 0, 1}, {2, 9, 10}, {3, 9, 0}, {4, 9, 0}, {5, 9, -3}, {6, 0, 2}, {6, 9, 20}, {7, 9, -1}};
    for (int k = 0; k < all.length; k++) {
      deed(all[k][0], all[k][1], k, 0, 0);
      due("guilt of " + all[k][0], x.guilt(k), all[k][2]);
    }
    due("guilt(10)", x.guilt(10), REFUSED);
    due("guilt(-1)", x.guilt(-1), REFUSED);
  }

  private void done() {
    x.keep(0, 1, 2, 5);
    due("the first", x.done(0, 364, 4, 31), 0);
    due("who aside", x.deed(0, 4), 15);
    due("kind", x.deed(0, 0), 2);
    due("figure", x.deed(0, 1), 5);
    due("it stays on the shelf", x.cost(0), 7);
    due("another", x.done(0, 0, 0, 0), 1);
    fillShelves();
    due("shelf 8", x.done(8, 0, 0, 0), -1);
    due("shelf -1", x.done(-1, 0, 0, 0), -1);
    due("day 365", x.done(1, 365, 0, 0), -1);
    due("day -1", x.done(1, -1, 0, 0), -1);
    due("who 5", x.done(1, 0, 5, 0), -1);
    due("who -1", x.done(1, 0, -1, 0), -1);
    due("seen 32", x.done(1, 0, 0, 32), -1);
    due("seen -1", x.done(1, 0, 0, -1), -1);
    due("-1 goes ahead of -11", x.done(0, 365, 0, 0), -1);
    due("nothing held", x.done(0, 0, 0, 0), -11);
    due("a row", x.done(2, 0, 0, 0), -12);
    for (int k = 2; k < 10; k++) {
      due("number", x.done(1, k, 1, 1), k);
    }
    due("no room", x.done(1, 10, 1, 1), -2);
    due("-11 goes ahead of -2", x.done(0, 10, 1, 1), -11);
    due("-12 goes ahead of -2", x.done(4, 10, 1, 1), -12);
    due("-1 goes ahead of -2", x.done(1, 365, 1, 1), -1);
    due("ten", x.count(0), 10);
  }

  private void sees() {
    deed(0, 0, 10, 2, 1);
    due("seen", x.sees(0, 4), 1);
    due("bits", x.deed(0, 4), 17);
    due("not any more", x.sees(0, 4), 0);
    due("the first one not", x.sees(0, 0), 0);
    due("bits", x.deed(0, 4), 0);
    due("again", x.sees(0, 0), 1);
    due("who", x.sees(0, 2), -3);
    due("no deed", x.sees(1, 2), -1);
    due("no deed", x.sees(-1, 0), -1);
    due("no person", x.sees(0, 5), -1);
    due("no person", x.sees(0, -1), -1);
    due("bits", x.deed(0, 4), 1);
  }

  private void today() {
    due("was", x.today(0), 365);
    due("was", x.today(365), 0);
    due("was", x.today(200), 365);
    due("too far", x.today(366), -1);
    due("too early", x.today(-1), -1);
    due("stays", x.count(1), 200);
  }

  private void remembers() {
    deed(2, 0, 100, 1, 5);
    int[][] all = {{99, 0, 0}, {100, 1, 1}, {120, 1, 1}, {121, 0, 1}, {140, 0, 1}, {141, 0, 0}};
    for (int[] one : all) {
      x.today(one[0]);
      due("who on " + one[0], x.remembers(1, 0), one[1]);
      due("one who saw it on " + one[0], x.remembers(2, 0), one[2]);
      due("another who did", x.remembers(0, 0), one[2]);
      due("one who did not", x.remembers(3, 0), 0);
    }
    deed(6, 0, 141, 0, 2);
    x.today(141);
    due("ashamed the same day", x.remembers(0, 1), 1);
    x.today(142);
    due("not a day on", x.remembers(0, 1), 0);
    due("but who saw it", x.remembers(1, 1), 1);
    due("no person", x.remembers(5, 0), -1);
    due("no person", x.remembers(-1, 0), -1);
    due("no deed", x.remembers(0, 2), -1);
    due("no deed", x.remembers(0, -1), -1);
  }

  private void knows() {
    deed(0, 0, 100, 0, 6);
    deed(5, 0, 50, 1, 1);
    deed(3, 0, 80, 2, 2);
    deed(0, 0, 111, 0, 31);
    x.today(110);
    due("0", x.knows(0), 1);
    due("1", x.knows(1), 7);
    due("2", x.knows(2), 5);
    due("3", x.knows(3), 0);
    x.today(111);
    due("0", x.knows(0), 8);
    due("4", x.knows(4), 8);
    due("no person", x.knows(5), -1);
    due("no person", x.knows(-1), -1);
  }

  private void forgotten() {
    deed(4, 0, 10, 0, 0);
    deed(4, 1, 10, 0, 2);
    deed(5, 0, 0, 0, 0);
    deed(6, 0, 10, 0, 0);
    x.today(9);
    due("ahead", x.forgotten(), 0);
    x.today(10);
    due("the day itself", x.forgotten(), 0);
    x.today(11);
    due("a day on", x.forgotten(), 9);
    x.today(12);
    due("two days on", x.forgotten(), 11);
    x.today(365);
    due("the proud one remembers", x.forgotten(), 11);
  }

  private void forgets() {
    deed(1, 0, 100, 0, 2);
    x.today(100);
    due("who", x.forgets(0, 0), 116);
    due("one who saw it", x.forgets(1, 0), 106);
    due("one who did not", x.forgets(2, 0), -3);
    x.today(105);
    due("the last day", x.forgets(1, 0), 106);
    x.today(106);
    due("not any more", x.forgets(1, 0), -3);
    x.today(99);
    due("ahead", x.forgets(0, 0), -3);
    deed(0, 0, 354, 0, 0);
    deed(0, 1, 354, 0, 0);
    x.today(360);
    due("365", x.forgets(0, 1), 365);
    due("not this year", x.forgets(0, 2), -4);
    due("no person", x.forgets(5, 0), -1);
    due("no person", x.forgets(-1, 0), -1);
    due("no deed", x.forgets(0, 3), -1);
    due("-1 goes ahead of -3", x.forgets(2, 3), -1);
  }

  private void only() {
    deed(0, 0, 100, 0, 0);
    deed(0, 0, 100, 0, 2);
    deed(1, 0, 100, 0, 6);
    deed(2, 0, 100, 3, 4);
    due("all forgotten", x.only(), 0);
    x.today(100);
    due("on the day", x.only(), 1);
    x.today(106);
    due("the good one alone knows", x.only(), 5);
    x.today(120);
    due("two know the unkind one", x.only(), 0);
    x.today(121);
    due("who saw the unkind one", x.only(), 8);
    x.today(99);
    due("ahead", x.only(), 0);
  }

  private void witnesses() {
    due("nothing", x.witnesses(), 0);
    deed(0, 0, 100, 0, 2);
    deed(0, 0, 100, 1, 4);
    deed(0, 0, 100, 2, 8);
    deed(0, 0, 100, 3, 16);
    x.today(100);
    due("two of five", x.witnesses(), 10);
    deed(0, 0, 100, 4, 1);
    due("three of five, the least", x.witnesses(), 11);
    x.today(99);
    due("none ahead", x.witnesses(), 0);
    anew();
    for (int p = 0; p < 5; p++) {
      deed(0, 0, 100, p, 0);
    }
    x.today(100);
    due("all five", x.witnesses(), 31);
    deed(0, 0, 100, 0, 30);
    due("all five still", x.witnesses(), 31);
    anew();
    deed(0, 0, 100, 4, 9);
    x.today(105);
    due("the least of three", x.witnesses(), 1);
  }

  private void place() {
    deed(1, 0, 50, 0, 0);
    deed(0, 0, 50, 0, 0);
    deed(2, 0, 49, 0, 0);
    deed(3, 0, 50, 0, 0);
    deed(2, 0, 60, 0, 0);
    x.today(59);
    int[] places = {3, 1, 0, 2, -4};
    int[] pages = {1, 0, 0, 1, -4};
    for (int k = 0; k < 5; k++) {
      due("place of " + k, x.place(k, 0), places[k]);
      due("page of " + k, x.place(k, 1), pages[k]);
    }
    x.today(60);
    due("place now", x.place(4, 0), 4);
    due("page now", x.place(4, 1), 1);
    x.today(59);
    due("not any more", x.place(4, 0), -4);
    due("nor its page", x.place(4, 1), -4);
    due("what 2", x.place(0, 2), -1);
    due("what -1", x.place(0, -1), -1);
    due("no deed", x.place(5, 0), -1);
    due("no deed", x.place(-1, 1), -1);
  }

  private void pages() {
    due("none", x.pages(), 0);
    deed(0, 0, 1, 0, 0);
    deed(0, 0, 2, 0, 0);
    deed(0, 0, 3, 0, 0);
    due("full with 30", x.pages(), 1);
    deed(4, 0, 4, 0, 0);
    due("no points more", x.pages(), 1);
    deed(4, 1, 5, 0, 0);
    due("a point more", x.pages(), 2);
    x.today(4);
    due("of what is told", x.pages(), 1);
    x.today(0);
    due("none told", x.pages(), 0);
    anew();
    for (int k = 0; k < 10; k++) {
      deed(2, 0, k, 0, 0);
    }
    due("two a page", x.pages(), 5);
    anew();
    for (int k = 0; k < 10; k++) {
      deed(k == 3 ? 4 : 0, k == 3 ? 9 : 0, k, 0, 0);
    }
    due("29 and 10 do not go together", x.place(5, 1), 1);
    due("nor 30 more", x.place(6, 1), 2);
    due("four pages", x.pages(), 4);
  }

  private void looksUp() {
    deed(0, 0, 300, 0, 0);
    deed(2, 0, 350, 0, 0);
    deed(1, 0, 300, 1, 1);
    deed(2, 0, 340, 0, 0);
    deed(0, 0, 302, 2, 1);
    x.today(322);
    due("what is told", x.looksUp(0, 0), 0);
    due("his and what he saw, forgotten", x.looksUp(0, 1), 21);
    x.today(362);
    due("of two the first told", x.looksUp(0, 0), 1);
    due("he forgot the day 340", x.looksUp(0, 1), 8);
    due("another's page", x.looksUp(1, 0), 0);
    due("what he finds", x.looksUp(1, 1), 4);
    due("a third one's", x.looksUp(2, 1), 16);
    due("none of his", x.looksUp(4, 0), -4);
    due("nothing found", x.looksUp(4, 1), 0);
    x.today(299);
    due("not told", x.looksUp(0, 0), -4);
    due("nothing told", x.looksUp(0, 1), 0);
    due("nor another's", x.looksUp(2, 0), -4);
    due("no person", x.looksUp(5, 0), -1);
    due("no person", x.looksUp(-1, 0), -1);
    due("what 2", x.looksUp(0, 2), -1);
    due("what -1", x.looksUp(0, -1), -1);
    anew();
    for (int k = 0; k < 4; k++) {
      deed(2, 0, 10 - k, k % 3, 0);
    }
    due("of two far apart the first told", x.looksUp(0, 0), 0);
    anew();
    deed(4, 0, 5, 3, 0);
    due("of no size, still his", x.looksUp(3, 0), 0);
    due("and forgotten", x.looksUp(3, 1), 1);
  }

  private void uncut() {
    for (int k = 0; k < 6; k++) {
      deed(0, 0, 60 - k, k % 5, 0);
    }
    due("none", x.uncut(0, 0), 0);
    due("none but who did none", x.uncut(0, 1), 0);
    due("the last", x.uncut(1, 0), 7);
    due("who stands on that alone", x.uncut(1, 1), 6);
    due("all two", x.uncut(2, 0), 63);
    due("all", x.uncut(2, 1), 31);
    due("more than there are", x.uncut(9, 0), 63);
    due("all", x.uncut(9, 1), 31);
    x.today(57);
    due("one page is told", x.uncut(1, 0), 56);
    due("none uncut", x.uncut(0, 1), 6);
    due("10", x.uncut(10, 0), -1);
    due("-1", x.uncut(-1, 0), -1);
    due("what 2", x.uncut(0, 2), -1);
    due("what -1", x.uncut(0, -1), -1);
  }

  private void guilty() {
    deed(2, 4, 10, 0, 0);
    deed(6, 9, 20, 1, 0);
    deed(5, 0, 30, 0, 0);
    deed(5, 0, 30, 2, 0);
    due("-30", x.guilty(-30), 31);
    due("-3", x.guilty(-3), 31);
    due("-2", x.guilty(-2), 27);
    due("0", x.guilty(0), 27);
    due("1", x.guilty(1), 3);
    due("2", x.guilty(2), 3);
    due("3", x.guilty(3), 2);
    due("20", x.guilty(20), 2);
    due("21", x.guilty(21), 0);
    due("99", x.guilty(99), 0);
    x.today(15);
    due("of what is told", x.guilty(5), 1);
    due("no more", x.guilty(6), 0);
    due("100", x.guilty(100), -1);
    due("-31", x.guilty(-31), -1);
  }

  private void price() {
    due("nobody buys", x.price(0), 1);
    due("nothing", x.price(1), 0);
    deed(2, 5, 1, 0, 0);
    deed(2, 2, 2, 1, 0);
    due("6 of one or 3 of two", x.price(0), 3);
    due("6", x.price(1), 6);
    deed(2, 0, 3, 0, 0);
    due("7 of one", x.price(0), 7);
    due("7", x.price(1), 7);
    for (int k = 0; k < 6; k++) {
      deed(6, 9, 4, 2, 0);
    }
    due("99 at most", x.price(0), 99);
    due("99", x.price(1), 99);
    x.today(2);
    due("of what is told", x.price(1), 6);
    anew();
    for (int p = 0; p < 5; p++) {
      deed(2, p == 0 ? 4 : 0, p, p, 0);
    }
    due("1 of five, or 5 of one", x.price(0), 1);
    due("5", x.price(1), 5);
    due("what 2", x.price(2), -1);
    due("what -1", x.price(-1), -1);
  }

  private void slips() {
    deed(0, 0, 5, 0, 0);
    deed(0, 0, 7, 0, 0);
    lay(0, 1, 0, 5, 0, 6, 0, 6, 1, 7, 1, 8, 0, 9);
    due("two of one, one of the other", x.slips(0, 0), 3);
    due("four off their days", x.slips(0, 1), 4);
    lay(0, 0, 0, 5, 0, 5, 1, 7);
    due("none", x.slips(0, 0), 0);
    due("none off", x.slips(0, 1), 0);
    lay(0, 0, 0, 0, 0, 4, 0, 0, 0, 4);
    due("day 0 twice, too", x.slips(0, 0), 2);
    lay(0, 0, 0, 0, 0, 4, 0, 4);
    due("day 0 once", x.slips(0, 0), 1);
    due("three off", x.slips(0, 1), 3);
    lay(0, 2);
    due("an empty one", x.slips(0, 0), 0);
    due("an empty one", x.slips(0, 1), 0);
    lay(0, 2, 0, 0, 0, 364);
    due("first and last day", x.slips(0, 0), 1);
    due("both off", x.slips(0, 1), 2);
    int[][] bad = {{0}, {0, 5, 1}, {2, 5}, {-1, 5}, {0, -1}, {0, 365}, {0, 5, 1, 365}};
    for (int[] row : bad) {
      lay(0, 2, row);
      due("not as it must be", x.slips(0, 0), -13);
      due("not as it must be", x.slips(0, 1), -13);
    }
    due("-1 goes ahead", x.slips(0, 2), -1);
    due("what -1", x.slips(0, -1), -1);
    due("shelf 8", x.slips(8, 0), -1);
    due("shelf -1", x.slips(-1, 0), -1);
    fillShelves();
    due("nothing", x.slips(0, 0), -11);
    due("a kind", x.slips(1, 0), -12);
    due("what ahead of nothing", x.slips(0, 2), -1);
  }

  private void trueDay() {
    deed(0, 0, 5, 0, 0);
    deed(0, 0, 7, 0, 0);
    lay(0, 1, 0, 300, 0, 6, 0, 300, 0, 6, 0, 1, 1, 9, 1, 8);
    due("of two the least", x.trueDay(0, 0), 6);
    due("of two told once", x.trueDay(0, 1), 8);
    x.put(0, 9, 300);
    due("most often", x.trueDay(0, 0), 300);
    deed(0, 0, 7, 0, 0);
    due("not told", x.trueDay(0, 2), -4);
    due("no deed", x.trueDay(0, 3), -1);
    due("no deed", x.trueDay(0, -1), -1);
    due("shelf 8", x.trueDay(8, 0), -1);
    x.put(0, 0, 3);
    due("a pair of no deed", x.trueDay(0, 1), -13);
    lay(0, 0, 0, 9, 0, 0, 0, 9);
    due("not day 0", x.trueDay(0, 0), 9);
    lay(0, 0, 0);
    due("unwhole", x.trueDay(0, 1), -13);
    lay(0, 1, 0, 365);
    due("no such day", x.trueDay(0, 1), -13);
    fillShelves();
    due("nothing", x.trueDay(0, 0), -11);
    due("a kind", x.trueDay(1, 0), -12);
    due("no deed ahead of nothing", x.trueDay(0, 3), -1);
  }

  private void mayBe() {
    deed(2, 0, 300, 0, 2);
    x.today(310);
    due("both know: up to 20 days ago", x.mayBe(0, 0), 21);
    due("the least", x.mayBe(0, 1), 290);
    x.today(325);
    due("one knows: 21 to 40 days ago", x.mayBe(0, 0), 20);
    due("the least", x.mayBe(0, 1), 285);
    x.today(341);
    due("nobody: 41 days ago and more", x.mayBe(0, 0), 301);
    due("the least", x.mayBe(0, 1), 0);
    x.today(10);
    due("nobody knows what is ahead", x.mayBe(0, 0), 0);
    due("no such day", x.mayBe(0, 1), -4);
    x.today(60);
    due("forgotten days", x.mayBe(0, 0), 20);
    anew();
    deed(0, 0, 364, 0, 0);
    due("364 is the last day", x.mayBe(0, 0), 10);
    due("355", x.mayBe(0, 1), 355);
    deed(5, 0, 364, 0, 0);
    due("proud of all days", x.mayBe(1, 0), 365);
    due("no deed", x.mayBe(2, 0), -1);
    due("no deed", x.mayBe(-1, 0), -1);
    due("what 2", x.mayBe(0, 2), -1);
    due("what -1", x.mayBe(0, -1), -1);
  }

  private void law() {
    lay(0, 0, 6, -128, 6);
    due("a good and a hand's", x.law(0, 3, 0), 2);
    due("winds and hands", x.law(0, 6, 0), 16);
    due("hands with 0 and 1", x.law(0, 7, 1), 3);
    due("goods with 2 and 3", x.law(0, 1, 1), 12);
    due("winds with 6", x.law(0, 4, 1), 64);
    lay(0, 0, 20);
    due("a shame's", x.law(0, 0, 0), 64);
    lay(0, 1, 40, 40, -32768);
    due("an unkind's, a loss's", x.law(0, 0, 0), 12);
    lay(0, 2, 25, MIN);
    due("a proud one's", x.law(0, 0, 0), 32);
    due("with 0 and 1", x.law(0, 5, 1), 3);
    lay(0, 2);
    due("nothing told", x.law(0, 9, 0), 255);
    due("nothing told", x.law(0, 7, 1), 1023);
    lay(0, 2, -128);
    due("not the least int", x.law(0, 9, 0), 0);
    lay(0, 1, -128);
    due("not the least short", x.law(0, 9, 0), 0);
    lay(0, 0, -128);
    due("the least byte", x.law(0, 9, 0), 255);
    lay(0, 0, 10, 11);
    due("two numbers", x.law(0, 0, 1), 0);
    due("figure 10", x.law(0, 10, 0), -1);
    due("figure -1", x.law(0, -1, 0), -1);
    due("kind 8", x.law(0, 8, 1), -1);
    due("what 2", x.law(0, 0, 2), -1);
    due("what -1", x.law(0, 0, -1), -1);
    due("shelf 8", x.law(8, 0, 0), -1);
    fillShelves();
    due("nothing", x.law(0, 0, 0), -11);
    due("a kind", x.law(1, 0, 0), -12);
    due("kind 8 ahead of nothing", x.law(0, 8, 1), -1);
  }

  private void leastInIt() {
    deed(0, 0, 100, 0, 0);
    deed(2, 0, 101, 0, 0);
    deed(4, 0, 102, 0, 0);
    deed(2, 0, 103, 0, 0);
    deed(1, 0, 104, 0, 0);
    int[][] all = {{0, 0, 40}, {1, 2, 28}, {2, 10, 16}, {3, 11, 6}, {4, 27, 0}, {5, 27, 0}, {10, 27, 0}};
    for (int[] one : all) {
      due("bits without " + one[0], x.leastInIt(one[0], 0), one[1]);
      due("sizes without " + one[0], x.leastInIt(one[0], 1), one[2]);
    }
    x.today(102);
    due("of what is told", x.leastInIt(3, 0), 3);
    due("nothing left", x.leastInIt(3, 1), 0);
    anew();
    deed(4, 0, 1, 0, 0);
    deed(4, 1, 1, 0, 0);
    due("one of size 0 is left", x.leastInIt(10, 0), 2);
    due("nothing", x.leastInIt(10, 1), 0);
    due("11", x.leastInIt(11, 0), -1);
    due("-1", x.leastInIt(-1, 0), -1);
    due("what 2", x.leastInIt(0, 2), -1);
    due("what -1", x.leastInIt(0, -1), -1);
  }

  private void robin() {
    deed(0, 0, 100, 0, 2);
    deed(0, 0, 101, 0, 12);
    deed(1, 0, 101, 0, 24);
    deed(1, 0, 101, 1, 28);
    x.today(105);
    due("all remember", x.robin(0), -4);
    x.today(107);
    due("the good one", x.robin(0), 2);
    x.today(111);
    due("two lost more than one", x.robin(0), 2);
    x.today(112);
    due("of two the least", x.robin(0), 1);
    due("another's", x.robin(1), 3);
    due("none of his", x.robin(2), -4);
    x.today(100);
    due("ahead", x.robin(0), -4);
    anew();
    deed(0, 0, 100, 3, 1);
    deed(0, 0, 100, 3, 1);
    due("one lost, of the first", x.robin(3), 0);
    x.sees(0, 0);
    x.sees(1, 0);
    due("nobody saw them", x.robin(3), -4);
    due("5", x.robin(5), -1);
    due("-1", x.robin(-1), -1);
  }

  private void two() {
    int[][] all = {
      {0, 0, 11}, {10, 50, 11}, {20, 20, 1}, {22, 22, 0}, {23, 29, 0}, {0, 21, 10}, {21, 0, 1},
      {20, 0, 1}, {0, 20, 10}, {0, 29, 10}, {29, 0, 1}, {21, 21, 1}, {60, 61, 10}, {61, 60, 1}, {20, 69, 10}, {79, 40, 11}
    };
    for (int[] one : all) {
      due("two(" + one[0] + ", " + one[1] + ")", x.two(one[0], one[1]), one[2]);
    }
    due("80", x.two(80, 0), -1);
    due("80", x.two(0, 80), -1);
    due("-1", x.two(-1, 0), -1);
    due("-1", x.two(0, -1), -1);
  }

  private void chance() {
    long[][] all = {
      {0, 2, 0, 1, 1}, {0, 2, 1, 0, 1}, {1, 2, 1, 1, 2}, {2, 2, 1, 3, 4}, {2, 3, 1, 5, 9}, {3, 2, 2, 1, 2},
      {8, 20, 8, 1, 25600000000L}, {8, 20, 1, 8616436959L, 25600000000L}, {8, 20, 0, 1, 1}, {3, 6, 4, 0, 1}, {4, 4, 2, 67, 256}
    };
    for (long[] one : all) {
      int n = (int) one[0];
      int t = (int) one[1];
      int k = (int) one[2];
      due("chance(" + n + ", " + t + ", " + k + ") above", x.chance(n, t, k, 0), one[3]);
      due("chance(" + n + ", " + t + ", " + k + ") below", x.chance(n, t, k, 1), one[4]);
    }
    int[][] bad = {{9, 2, 0, 0}, {-1, 2, 0, 0}, {0, 1, 0, 0}, {0, 21, 0, 0}, {0, 2, 9, 0}, {0, 2, -1, 0}, {0, 2, 0, 2}, {0, 2, 0, -1}, {0, 0, 0, 0}};
    for (int[] one : bad) {
      due("refused", x.chance(one[0], one[1], one[2], one[3]), REFUSED);
    }
  }

  private void mean() {
    due("nothing above", x.mean(0), 0);
    due("nothing below", x.mean(1), 1);
    deed(0, 0, 100, 0, 0);
    deed(1, 0, 101, 0, 0);
    due("8", x.mean(0), 8);
    due("by 1", x.mean(1), 1);
    x.today(100);
    due("of one", x.mean(0), 10);
    due("by 1", x.mean(1), 1);
    x.today(365);
    deed(7, 0, 102, 0, 0);
    due("7", x.mean(0), 7);
    deed(7, 0, 103, 0, 0);
    due("26 by 4", x.mean(0), 13);
    due("is 13 by 2", x.mean(1), 2);
    x.today(99);
    due("nothing told", x.mean(0), 0);
    due("nothing told", x.mean(1), 1);
    anew();
    deed(4, 0, 1, 0, 0);
    deed(4, 0, 2, 0, 0);
    due("0 by 2", x.mean(0), 0);
    due("is 0 by 1", x.mean(1), 1);
    due("part 2", x.mean(2), REFUSED);
    due("part -1", x.mean(-1), REFUSED);
  }

  private void gap() {
    due("all days", x.gap(0), 365);
    due("from 0 on", x.gap(1), 0);
    x.today(364);
    due("all days still", x.gap(0), 365);
    x.today(363);
    due("a day less", x.gap(0), 364);
    deed(0, 0, 100, 0, 0);
    deed(0, 0, 201, 0, 0);
    x.today(301);
    due("100 thrice", x.gap(0), 100);
    due("the first", x.gap(1), 0);
    x.today(302);
    due("101 at the end", x.gap(0), 101);
    due("from 202 on", x.gap(1), 202);
    x.today(200);
    due("the second one is ahead", x.gap(0), 100);
    due("the first", x.gap(1), 0);
    deed(0, 0, 0, 0, 0);
    due("two of 99 and 100", x.gap(0), 100);
    due("the second", x.gap(1), 101);
    x.today(0);
    due("no day", x.gap(0), 0);
    due("no day", x.gap(1), -4);
    anew();
    deed(0, 0, 2, 0, 0);
    deed(0, 0, 2, 0, 0);
    deed(0, 0, 3, 0, 0);
    deed(0, 0, 0, 0, 0);
    x.today(3);
    due("one day", x.gap(0), 1);
    due("day 1", x.gap(1), 1);
    due("what 2", x.gap(2), -1);
    due("what -1", x.gap(-1), -1);
  }

  private void quarrel() {
    due("none", x.quarrel(), -4);
    deed(1, 0, 100, 3, 16);
    deed(2, 0, 200, 2, 18);
    deed(2, 0, 200, 4, 6);
    x.today(100);
    due("both know", x.quarrel(), -4);
    x.today(110);
    due("3 knows, 4 does not", x.quarrel(), 34);
    x.today(230);
    due("2 and 4 quarrel twice", x.quarrel(), 24);
    x.sees(2, 2);
    due("of several the first", x.quarrel(), 12);
    x.today(260);
    due("both forgot", x.quarrel(), -4);
    anew();
    deed(1, 0, 100, 3, 0);
    x.today(105);
    due("one alone", x.quarrel(), -4);
    x.sees(0, 0);
    x.today(106);
    due("the lesser first", x.quarrel(), 3);
  }

  private void forged() {
    lay(0, 0);
    due("nothing of nothing", x.forged(0), -4);
    lay(0, 0, 0);
    due("something of nothing", x.forged(0), 0);
    deed(0, 0, 50, 0, 0);
    deed(2, 0, 50, 0, 0);
    deed(0, 0, 40, 0, 0);
    deed(0, 0, 60, 0, 0);
    x.today(55);
    int[][] rows = {
      {2, 1, 0}, {2, 1}, {2, 1, 0, 3}, {2, 0, 1}, {1, 0, 2}, {2, 1, 3}, {}, {2}, {-128, 1, 0},
      {1}, {2, 0}, {2, 2}, {2, 1, 0, 0}, {2, 1, 0, -128}, {2, 1, 0, 3, 3, 3}, {0, 0, 0, 0, 0}, {10}, {2, 1, 10}
    };
    int[] places = {-4, -4, 3, 1, 0, 2, -4, -4, 0, 0, 1, 1, 3, 3, 3, 0, 0, 2};
    for (int i = 0; i < rows.length; i++) {
      for (int sort = 0; sort < 3; sort++) {
        lay(0, sort, rows[i]);
        due("row " + i, x.forged(0), places[i]);
      }
    }
    x.today(60);
    lay(0, 2, 2, 1, 0, 3);
    due("all four", x.forged(0), -4);
    x.today(55);
    due("one too many", x.forged(0), 3);
    lay(0, 2, 2, 1, 0);
    due("three again", x.forged(0), -4);
    x.today(39);
    due("none is told yet", x.forged(0), 0);
    lay(1, 0);
    due("nothing of what is not told yet", x.forged(1), -4);
    x.today(60);
    due("nothing of all four", x.forged(1), -4);
    due("three of all four", x.forged(0), -4);
    x.today(55);
    lay(0, 2, 2, 1, 3);
    due("one that is ahead", x.forged(0), 2);
    for (int below = -20; below < 0; below++) {
      lay(0, 2, 2, 1, 0, below);
      due("below 0 behind the last", x.forged(0), 3);
      lay(0, 2, 2, below, 0);
      due("below 0 in between", x.forged(0), 1);
    }
    due("shelf 8", x.forged(8), -1);
    due("shelf -1", x.forged(-1), -1);
    fillShelves();
    due("nothing", x.forged(0), -11);
    due("a kind", x.forged(1), -12);
  }

  private void judge() {
    deed(1, 0, 100, 0, 2);
    deed(0, 0, 102, 2, 2);
    x.today(99);
    lay(0, 0, 0, 1, 1, 2, 2, 2, 2, 1);
    due("as one remembers", x.judge(0, 1), -4);
    due("another", x.judge(0, 0), 3);
    x.put(0, 3, -128);
    x.put(0, 0, 7);
    due("the first wrong", x.judge(0, 1), 0);
    x.put(0, 0, -128);
    due("skipped", x.judge(0, 1), -4);
    x.put(0, 7, 2);
    due("the last", x.judge(0, 1), 7);
    lay(0, 2);
    due("nothing told", x.judge(0, 4), -4);
    anew();
    deed(0, 0, 354, 0, 0);
    x.today(363);
    lay(0, 1, 1, 1, 0, 0, 0, -32768, 0, 1);
    due("as on 365", x.judge(0, 0), 7);
    x.put(0, 7, 0);
    due("as on 365", x.judge(0, 0), -4);
    anew();
    deed(5, 0, 364, 0, 0);
    x.today(363);
    lay(0, 1, 0, 1, 1, 1, 1);
    due("365 at most", x.judge(0, 0), -4);
    lay(0, 2, -32768);
    due("not the least int", x.judge(0, 0), 0);
    due("person 5", x.judge(0, 5), -1);
    due("person -1", x.judge(0, -1), -1);
    due("shelf 8", x.judge(8, 0), -1);
    fillShelves();
    due("nothing", x.judge(0, 0), -11);
    due("a kind", x.judge(1, 0), -12);
    due("person ahead of nothing", x.judge(0, 5), -1);
  }

  /** Draws once more, in longs and apart from the class; few laws, since others are tested above. */
  private int sizesDrawn(int years, int seed) {
    long z = seed & 0xFFFFFFFFL;
    int sizes = 0;
    for (int i = 0; i < years * 10; i++) {
      int kind = 0;
      int figure = 0;
      for (int draw = 0; draw < 5; draw++) {
        z = (z * 1103515245L + 12345L) % 4294967296L;
        long high = z % 2147483648L / 65536;
        kind = draw == 0 ? (int) (high % 8) : kind;
        figure = draw == 1 ? (int) (high % 10) : figure;
      }
      sizes += new int[] {10, 6, 12, 10, figure, 12, 12, 5}[kind];
    }
    return sizes;
  }

  private void years() {
    for (int seed : new int[] {0, 1, 42, -1, MIN, MAX, 987654321}) {
      for (int n : new int[] {1, 2, 20}) {
        due("sizes of " + n + " with " + seed, x.years(n, seed, 1), sizesDrawn(n, seed));
      }
    }
    deed(0, 0, 1, 0, 0);
    x.today(0);
    due("its own deeds and today do not matter", x.years(1, 0, 1), sizesDrawn(1, 0));
    int[][] lost = {{1, 0, 7}, {1, 5, 7}, {2, -7, 15}, {20, 5, 162}, {20, 8, 164}, {20, MIN, 157}};
    for (int[] one : lost) {
      due("lost of " + one[0] + " with " + one[1], x.years(one[0], one[1], 0), one[2]);
    }
    due("no deed comes", x.count(0), 1);
    due("0 years", x.years(0, 0, 0), -1);
    due("21 years", x.years(21, 0, 0), -1);
    due("-1 years", x.years(-1, 0, 0), -1);
    due("what 2", x.years(1, 0, 2), -1);
    due("what -1", x.years(1, 0, -1), -1);
  }

  private void image() {
    due("of nothing", x.image(), 0);
    deed(0, 0, 1, 0, 0);
    deed(0, 0, 2, 0, 0);
    due("of two", x.image(), 2);
    deed(0, 0, 3, 0, 0);
    due("nothing changes", x.count(0), 3);
    due("the last one counts", x.restore(), 2);
  }

  private void restore() {
    due("none", x.restore(), -3);
    deed(1, 5, 100, 3, 6);
    x.today(200);
    x.image();
    x.sees(0, 0);
    deed(0, 0, 1, 0, 0);
    x.today(7);
    x.keep(2, 1, 3, 3);
    due("one", x.restore(), 1);
    due("today", x.count(1), 200);
    int[] told = {1, 5, 100, 3, 6};
    for (int what = 0; what < told.length; what++) {
      due("what " + what, x.deed(0, what), told[what]);
    }
    due("lasts", x.deed(0, 5), 7);
    due("shelves stay", x.cost(2), 5);
    x.sees(0, 0);
    deed(2, 2, 2, 2, 2);
    due("once more", x.restore(), 1);
    due("the image is as it was", x.deed(0, 4), 6);
    anew();
    x.image();
    deed(0, 0, 1, 0, 0);
    due("an empty one", x.restore(), 0);
    due("no deeds", x.count(0), 0);
    due("no such", x.deed(0, 0), -1);
  }

  private void count() {
    deed(0, 0, 100, 0, 6);
    deed(2, 1, 200, 0, 30);
    deed(4, 3, 300, 0, 1);
    x.today(200);
    int[] counts = {3, 200, 22, 2, 10 + 44 + 3, 6};
    for (int what = 0; what < counts.length; what++) {
      due("count(" + what + ")", x.count(what), counts[what]);
    }
    for (int what : new int[] {-1, 6, MIN, MAX}) {
      due("count(" + what + ")", x.count(what), -1);
    }
    x.image();
    deed(2, 9, 200, 0, 31);
    x.restore();
    for (int what = 0; what < counts.length; what++) {
      due("again count(" + what + ")", x.count(what), counts[what]);
    }
    x.today(365);
    for (int k = 3; k < 10; k++) {
      deed(0, 0, 0, 0, 2);
    }
    due("sizes of ten", x.count(2), 10 + 12 + 3 + 70);
    due("lasts of ten", x.count(4), 57 + 70);
    due("seen of ten", x.count(5), 13);
  }

  /** Ten deeds, the most there are, all told, and each answered for by every call that goes over them. */
  private void fullYear() {
    for (int k = 0; k < 10; k++) {
      deed(2, 0, 360 - k, k % 5, 1 << (k + 1) % 5);
    }
    due("forgotten", x.forgotten(), 0);
    due("only", x.only(), 0);
    due("witnesses", x.witnesses(), 11);
    due("knows", x.knows(0), 0b1000110001);
    due("guilty", x.guilty(2), 31);
    due("price", x.price(1), 10);
    due("pages", x.pages(), 5);
    due("place", x.place(9, 0), 0);
    due("place", x.place(0, 0), 9);
    due("page", x.place(0, 1), 4);
    due("looks up", x.looksUp(4, 0), 0);
    due("uncut", x.uncut(1, 0), 3);
    due("uncut", x.uncut(1, 1), 0);
    due("least", x.leastInIt(9, 0), 511);
    due("least", x.leastInIt(9, 1), 12);
    due("robin", x.robin(0), -4);
    due("gap", x.gap(0), 351);
    due("gap", x.gap(1), 0);
    due("quarrel", x.quarrel(), -4);
    due("mean", x.mean(0), 12);
    lay(0, 0, 9, 8, 7, 6, 5, 4, 3, 2, 1, 0);
    due("forged", x.forged(0), -4);
    lay(0, 0, 4);
    due("judge", x.judge(0, 0), -4);
    lay(0, 1, 9, 351, 9, 352, 9, 352);
    due("slips", x.slips(0, 0), 1);
    due("slips", x.slips(0, 1), 2);
    due("true day", x.trueDay(0, 9), 352);
    due("image", x.image(), 10);
    x.today(0);
    due("restore", x.restore(), 10);
    due("knows", x.knows(1), 0b0001100011);
    due("no room", tell("d00000000;"), -2000);
  }

  private void keep() {
    due("a kind", x.keep(0, 1, 7, 9), 0);
    due("it is there", x.cost(0), 24);
    due("nothing", x.keep(0, 0, -5, 99), 0);
    due("nothing is there", x.cost(0), -11);
    lay(0, 2, 1, 2, 3);
    due("in place of a row", x.keep(0, 1, 0, 0), 0);
    due("no row", x.put(0, 0, 0), -12);
    due("kind 8", x.keep(0, 1, 8, 0), -1);
    due("kind -1", x.keep(0, 1, -1, 0), -1);
    due("figure 10", x.keep(0, 1, 0, 10), -1);
    due("figure -1", x.keep(0, 1, 0, -1), -1);
    due("what 2", x.keep(0, 2, 0, 0), -1);
    due("what -1", x.keep(0, -1, 0, 0), -1);
    due("shelf 8", x.keep(8, 1, 0, 0), -1);
    due("shelf -1", x.keep(-1, 0, 0, 0), -1);
    due("stays", x.cost(0), 3);
    lay(7, 1, 5);
    x.keep(7, 0, 0, 0);
    due("a row is gone", x.put(7, 0, 0), -11);
  }

  private void row() {
    due("100", x.row(0, 2, 100), 0);
    due("0 at first", x.element(0, 99), 0);
    x.put(0, 0, 4);
    x.put(0, 99, 5);
    due("anew", x.row(0, 2, 100), 0);
    due("0 again", x.element(0, 0), 0);
    due("0 again", x.element(0, 99), 0);
    due("101", x.row(0, 0, 101), -1);
    due("sort 3", x.row(0, 3, 0), -1);
    due("sort -1", x.row(0, -1, 0), -1);
    due("shelf 8", x.row(8, 0, 0), -1);
    due("shelf -1", x.row(-1, 0, 0), -1);
    due("below 0", x.row(0, 0, -1), -14);
    due("least", x.row(0, 0, MIN), -14);
    due("-1 goes ahead", x.row(0, 3, -1), -1);
    due("-1 goes ahead", x.row(8, 0, -1), -1);
    due("the row stays", x.put(0, 99, 0), 0);
    due("empty", x.row(0, 1, 0), 0);
    due("no place", x.put(0, 0, 0), -13);
    x.keep(1, 1, 0, 0);
    due("in place of a kind", x.row(1, 0, 1), 0);
    due("no kind", x.cost(1), -12);
  }

  private void put() {
    int[][] all = {{0, 127, 127}, {0, 128, -128}, {0, 256, 0}, {0, -129, 127}, {1, 32768, -32768}, {1, 70000, 4464}, {1, -1, -1}, {2, MIN, MIN}, {2, MAX, MAX}};
    for (int[] one : all) {
      x.row(0, one[0], 3);
      due("put", x.put(0, 2, one[1]), 0);
      due("the lowest bits", x.element(0, 2), one[2]);
      due("others stay", x.element(0, 1), 0);
    }
    due("place 3", x.put(0, 3, 0), -13);
    due("place -1", x.put(0, -1, 0), -13);
    due("shelf 8", x.put(8, 0, 0), -1);
    due("shelf -1", x.put(-1, 0, 0), -1);
    fillShelves();
    due("nothing", x.put(0, 0, 0), -11);
    due("a kind", x.put(1, 0, 0), -12);
    due("place 2", x.put(2, 2, 0), -13);
  }

  private int thrownBy(int d, int i) {
    try {
      x.element(d, i);
    } catch (IllegalArgumentException noShelf) {
      return noShelf.getClass() == IllegalArgumentException.class ? 1 : 3;
    } catch (IllegalStateException noPlace) {
      return 2;
    }
    return 0;
  }

  private void element() {
    fillShelves();
    x.put(4, 1, -77);
    due("element", x.element(4, 1), -77);
    int[][] all = {{8, 0, 1}, {-1, 0, 1}, {MIN, MIN, 1}, {0, 0, 2}, {1, 0, 2}, {2, 2, 2}, {2, -1, 2}, {2, 1, 0}, {3, MAX, 2}};
    for (int[] one : all) {
      due("element(" + one[0] + ", " + one[1] + ") throws", thrownBy(one[0], one[1]), one[2]);
    }
  }

  private void copy() {
    lay(0, 1, 1, 2, 3, 4, 5);
    lay(1, 1, 0, 0, 0);
    due("three", x.copy(0, 1, 1, 0, 3), 3);
    due("2", x.element(1, 0), 2);
    due("3", x.element(1, 1), 3);
    due("4", x.element(1, 2), 4);
    due("from stays", x.element(0, 1), 2);
    due("one onto the other", x.copy(0, 0, 0, 1, 4), 4);
    int[] moved = {1, 1, 2, 3, 4};
    for (int i = 0; i < 5; i++) {
      due("moved", x.element(0, i), moved[i]);
    }
    due("none", x.copy(0, 5, 1, 3, 0), 0);
    int[][] bad = {{0, 0, -1}, {-1, 0, 1}, {0, -1, 1}, {3, 0, 3}, {0, 1, 3}, {6, 0, 0}, {0, 4, 0}, {1, 1, MAX}, {MAX, 0, 1}, {MIN, MIN, MIN}, {MAX, MAX, MAX}};
    for (int[] one : bad) {
      due("no such places", x.copy(0, one[0], 1, one[1], one[2]), -13);
    }
    due("shelf 8", x.copy(8, 0, 1, 0, 1), -1);
    due("shelf -1", x.copy(0, 0, -1, 0, 1), -1);
    fillShelves();
    due("nothing", x.copy(0, 0, 2, 0, 1), -11);
    due("nothing", x.copy(2, 0, 0, 0, 1), -11);
    due("nothing goes ahead of a kind", x.copy(1, 0, 0, 0, 1), -11);
    due("a kind", x.copy(1, 0, 2, 0, 1), -12);
    due("a kind", x.copy(2, 0, 1, 0, 1), -12);
    due("two kinds", x.copy(1, 0, 1, 0, 1), -12);
    due("two sorts", x.copy(2, 0, 3, 0, 1), -12);
    due("sorts go ahead of places", x.copy(2, 9, 3, 0, 1), -12);
    due("shelves go ahead of all", x.copy(0, 0, 8, 0, -1), -1);
  }

  private void cost() {
    int[][] all = {{0, 0, 3}, {0, 9, 3}, {1, 0, 3}, {1, 4, 7}, {2, 9, 7}, {3, 9, 5}, {4, 9, 1}, {5, 0, 8}, {5, 9, 17}, {6, 9, 3}, {7, 0, 6}, {7, 4, 14}};
    for (int[] one : all) {
      x.keep(0, 1, one[0], one[1]);
      due("cost of " + one[0] + " with " + one[1], x.cost(0), one[2]);
    }
    fillShelves();
    due("nothing", x.cost(0), -11);
    due("a row", x.cost(2), -12);
    due("shelf 8", x.cost(8), -1);
    due("shelf -1", x.cost(-1), -1);
  }

  private void toss() {
    int[][] all = {{0, 9, 9}, {0, 1, 1}, {1, 4, 104}, {2, 9, 9}, {3, 2, 2}, {4, 9, -15}, {5, 9, 109}, {6, 9, -15}, {7, 9, 224}, {7, 1, 208}};
    for (int[] one : all) {
      x.keep(0, 1, one[0], one[1]);
      due("failure of " + one[0] + " with " + one[1], x.toss(0), one[2]);
      x.keep(0, 1, one[0], 0);
      due("none of " + one[0] + " with 0", x.toss(0), -15);
    }
    fillShelves();
    due("nothing", x.toss(0), -11);
    due("a row", x.toss(2), -12);
    due("shelf 8", x.toss(8), -1);
    due("shelf -1", x.toss(-1), -1);
  }
}
