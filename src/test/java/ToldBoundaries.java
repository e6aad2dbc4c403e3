import java.util.Arrays;

/** Boundaries of told pages: promises 31 to 33. */
public final class ToldBoundaries extends Boundaries {
  private static final String ORDER = "Answers of several REFUSALS are the first one as they are told at the call.";

  // ---- promise 31: forged

  @Says(promise = 31, words = "FORGED: a ROW tells DEEDS in the order of the ALMANAC: the first place that is not so (behind the last, too); -4.")
  void p31_theFirstPlaceThatIsNotSo() {
    someYear();
    deed(2, 0, 100, 4, 0);
    int[][] rows = {
      {3, 0, 1, 2}, {3, 0, 1, 2, 0}, {3, 0, 1, 2, 4}, {3, 0, 1, 2, -1}, {3, 0, 1, 0}, {3, 0, 2, 1},
      {3, 1, 0, 2}, {0, 3, 1, 2}, {4, 0, 1, 2}, {-1}, {3, 3}
    };
    int[] places = {-4, 4, 4, 4, 3, 2, 1, 0, 0, 0, 1};
    for (int i = 0; i < rows.length; i++) {
      for (int sort = 0; sort < 3; sort++) {
        row(5, sort, rows[i]);
        would(places[i], "forged", 5);
      }
    }
  }

  @Says(promise = 31, words = "(behind the last, too)")
  void p31_behindTheLastThatIsTold() {
    row(5, 0);
    due(-4, "forged", 5);
    row(5, 0, 0);
    due(0, "forged", 5);
    deeds(2);
    due(-4, "forged", 5);
    row(5, 0, 0, 1);
    due(-4, "forged", 5);
    play("today", 1);
    due(-4, "forged", 5);
    play("today", 0);
    due(1, "forged", 5);
    row(5, 0, 0, 1, 0);
    play("today", 1);
    due(2, "forged", 5);
  }

  /** Issue 5: what a ROW leaves away at its end is no place that is not so. */
  @Says(promise = 31, words = "FORGED by the ROW in SHELF d; -4.")
  void p31_aRowThatBreaksOffEarly() {
    deeds(10);
    int[] order = {0, 1, 2, 3, 4, 5, 6, 7, 8, 9};
    for (int length = 0; length <= 10; length++) {
      row(5, 0, Arrays.copyOf(order, length));
      would(-4, "forged", 5);
    }
    row(5, 0, 0, 1, 2, 3, 4, 5, 6, 7, 8, 9, 9);
    would(10, "forged", 5);
    play("row", 5, 0, 100);
    would(1, "forged", 5);
  }

  @Says(promise = 31, words = "-1")
  void p31_minus1NoSuchShelf() {
    someYear();
    row(0, 0, 1);
    row(7, 0, 0, 1, 2);
    range("forged", args(0), 0, 0, 0, 7, -4, -1);
  }

  @Says(promise = 31, words = "-11")
  void p31_minus11NothingHeld() {
    someYear();
    refused(-11, "forged", 0);
    play("row", 0, 0, 0);
    would(-4, "forged", 0);
  }

  @Says(promise = 31, words = "-12 (no ROW)")
  void p31_minus12NoRow() {
    someYear();
    refused(-12, "forged", 1);
    would(1, "forged", 2);
    would(0, "forged", 3);
    would(0, "forged", 4);
  }

  // ---- promise 32: judge

  @Says(promise = 32, words = "JUDGED: a ROW tells how many DEEDS one REMEMBERS on TODAY, a day on, ..")
  void p32_onTodayAndADayOn() {
    deed(4, 1, 100, 0, 2);
    deed(4, 0, 102, 2, 3);
    play("today", 99);
    row(5, 0, 0, 1, 1, 1, 0);
    due(-4, "judge", 5, 0);
    due(-4, "judge", 5, 1);
    due(1, "judge", 5, 2);
    play("today", 100);
    due(0, "judge", 5, 0);
    row(5, 0, 1, 1, 1, 0, 0);
    due(-4, "judge", 5, 0);
    row(5, 0, 1, 1, 0);
    due(2, "judge", 5, 0);
    row(5, 0, 1, 2, 0);
    due(1, "judge", 5, 0);
  }

  @Says(promise = 32, words = "(365 at most: then as on 365; DEEDS on days up to then, too)")
  void p32_asOn365() {
    deed(4, 0, 364, 0, 0);
    deed(4, 1, 364, 0, 0);
    deed(4, 2, 363, 0, 0);
    play("today", 363);
    row(5, 0, 1, 3, 2, 2, 2, 2);
    due(-4, "judge", 5, 0);
    row(5, 0, 1, 3, 2, 2, 2, 0);
    due(5, "judge", 5, 0);
    row(5, 0, 1, 3, 2, 1);
    due(3, "judge", 5, 0);
    play("today", 365);
    row(5, 0, 2, 2);
    due(-4, "judge", 5, 0);
    row(5, 0, 2, 1);
    due(1, "judge", 5, 0);
    play("today", 362);
    row(5, 0, 0, 1, 3, 2, 2);
    due(-4, "judge", 5, 0);
  }

  @Says(promise = 32, words = "the first that is not so (the least number is skipped); -4")
  void p32_theLeastNumberIsSkipped() {
    int[] least = {-128, -32768, MIN};
    deed(0, 0, 364, 0, 2);
    for (int sort = 0; sort < 3; sort++) {
      row(5, sort, 1, least[sort], 1);
      due(-4, "judge", 5, 0);
      row(5, sort, 1, least[sort] + 1, 1);
      due(1, "judge", 5, 0);
      row(5, sort, least[sort], least[sort], 0, 2);
      due(2, "judge", 5, 0);
      row(5, sort, least[sort]);
      due(-4, "judge", 5, 0);
      row(5, sort);
      due(-4, "judge", 5, 0);
    }
    row(5, 1, 1, -128);
    due(1, "judge", 5, 0);
    row(5, 2, 1, -32768);
    due(1, "judge", 5, 0);
  }

  @Says(promise = 32, words = "JUDGED by the ROW in SHELF d; -4.")
  void p32_minus4AllIsSo() {
    someYear();
    row(5, 0, 1);
    due(-4, "judge", 5, 0);
    row(5, 0, 0);
    due(0, "judge", 5, 0);
    due(-4, "judge", 5, 1);
    row(5, 0, 2);
    due(-4, "judge", 5, 3);
    row(5, 0, 3);
    due(0, "judge", 5, 3);
    row(5, 0, -1);
    due(0, "judge", 5, 1);
  }

  @Says(promise = 32, words = "0 .. 100 elements")
  void p32_aHundredDays() {
    int[] days = new int[100];
    Arrays.fill(days, 1);
    deed(5, 0, 265, 0, 2);
    row(5, 0, days);
    play("today", 265);
    due(-4, "judge", 5, 0);
    due(26, "judge", 5, 1);
    due(0, "judge", 5, 2);
    play("put", 5, 99, 0);
    due(99, "judge", 5, 0);
  }

  @Says(promise = 32, words = "-1")
  void p32_minus1NoSuchOne() {
    someYear();
    row(0, 0, 1);
    row(7, 0, 2);
    range("judge", args(0, 0), 0, 0, -4, 7, 0, -1);
    range("judge", args(0, 0), 1, 0, -4, 4, -4, -1);
  }

  @Says(promise = 32, words = "-11")
  void p32_minus11NothingHeld() {
    someYear();
    refused(-11, "judge", 0, 0);
    play("row", 0, 0, 0);
    would(-4, "judge", 0, 0);
  }

  @Says(promise = 32, words = "-12")
  void p32_minus12NoRow() {
    someYear();
    refused(-12, "judge", 1, 0);
    for (int d = 2; d < 5; d++) {
      would(d == 3 ? 1 : 0, "judge", d, 0);
    }
  }

  @Says(promise = 32, words = ORDER)
  void p32_orderOfRefusals() {
    someYear();
    for (int d = 0; d < 3; d++) {
      refused(-1, "judge", d, 5);
      refused(-1, "judge", d, -1);
    }
    refused(-1, "judge", 8, 5);
  }

  // ---- promise 33: years

  @Says(promise = 33, words = "YEARS with a seed z: n years (1 .. 20) of 10 DEEDS each alone")
  void p33_nIs1To20() {
    someYear();
    range("years", args(0, 0, 0), 0, 1, 7, 20, 157, -1);
    range("years", args(0, 0, 1), 0, 1, 94, 20, 1857, -1);
  }

  @Says(promise = 33, words = "YEARS: how many nobody REMEMBERS (what 0), SIZES (1). -1.")
  void p33_whatIs0Or1() {
    someYear();
    range("years", args(1, 5, 0), 2, 0, 7, 1, 88, -1);
  }

  @Says(promise = 33, words = "KIND a DRAW below 8, FIGURE below 10, DAY below 365, WHO below 5, SEEN below 32 (in this order; that of WHO aside): how many nobody REMEMBERS on 365")
  void p33_nobodyRemembersOn365() {
    int years = 20;
    for (int seed : new int[] {0, 1, -1, 12345, MIN, MAX}) {
      int[] drawn = drawn(years, seed);
      due(drawn[0], "years", years, seed, 0);
      due(drawn[1], "years", years, seed, 1);
    }
  }

  /** With these seeds a bound of a DRAW that is one off, or WHO among those who saw it, would show. */
  @Says(promise = 33, words = "WHO below 5, SEEN below 32 (in this order; that of WHO aside)")
  void p33_whoBelow5AndSeenBelow32() {
    int[][] lost = {{39, 6}, {66, 6}, {139, 9}, {209, 6}, {353, 10}, {393, 9}};
    for (int[] one : lost) {
      would(one[1], "years", 1, one[0], 0);
      would(drawn(1, one[0])[0], "years", 1, one[0], 0);
    }
  }

  @Says(promise = 33, words = "A DRAW below n: z becomes z times 1103515245 plus 12345 (an int); (z without its sign's bit over 65536, cut) modulo n.")
  void p33_seedsWrapRound() {
    for (int seed : new int[] {MIN, MIN + 1, -2, -1, 0, 1, MAX - 1, MAX}) {
      int[] drawn = drawn(1, seed);
      would(drawn[0], "years", 1, seed, 0);
      would(drawn[1], "years", 1, seed, 1);
    }
  }

  /** DRAWS once more, in longs: who LASTS and who OWNS so long is told by hand. */
  private static int[] drawn(int years, int seed) {
    long z = seed & 0xFFFFFFFFL;
    int lost = 0;
    int sizes = 0;
    int[] below = {8, 10, 365, 5, 32};
    for (int i = 0; i < 10 * years; i++) {
      int[] deed = new int[5];
      for (int j = 0; j < 5; j++) {
        z = z * 1103515245L + 12345L & 0xFFFFFFFFL;
        deed[j] = (int) ((z & 0x7FFFFFFFL) / 65536 % below[j]);
      }
      int figure = deed[1];
      int half = (10 + figure) / 2;
      int[] lasts = {10 + figure, half, 40 + 4 * figure, 40 + figure, figure, half + 20, 20 + 2 * figure, half + 1};
      int[] own = {10 + figure, 3 * half, 20 + 2 * figure, 40 + figure, figure, 365, 0, 3 * half + 3};
      int ago = 365 - deed[2];
      boolean isSeen = (deed[4] & ~(1 << deed[3])) != 0;
      lost += ago > own[deed[0]] && (!isSeen || ago > lasts[deed[0]]) ? 1 : 0;
      sizes += new int[] {10, 6, 12, 10, figure, 12, 12, 5}[deed[0]];
    }
    return new int[] {lost, sizes};
  }
}
