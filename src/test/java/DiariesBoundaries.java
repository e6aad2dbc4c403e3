/** Boundaries of diaries and laws: promises 20 to 30. */
public final class DiariesBoundaries extends Boundaries {
  private static final String ORDER = "Answers of several REFUSALS are the first one as they are told at the call.";

  // ---- promise 20: slips

  @Says(promise = 20, words = "the fewest pairs to be struck so that no DEED stands on two DAYS")
  void p20_theFewestPairsToBeStruck() {
    someYear();
    row(5, 2);
    due(0, "slips", 5, 0);
    row(5, 2, 0, 100);
    due(0, "slips", 5, 0);
    row(5, 2, 0, 100, 0, 100);
    due(0, "slips", 5, 0);
    row(5, 2, 0, 100, 0, 101);
    due(1, "slips", 5, 0);
    row(5, 2, 0, 100, 1, 101, 2, 102);
    due(0, "slips", 5, 0);
    row(5, 2, 0, 1, 0, 2, 0, 2, 0, 3, 1, 0, 1, 4);
    due(3, "slips", 5, 0);
    row(5, 2, 0, 0, 0, 4, 0, 4);
    due(1, "slips", 5, 0);
    row(5, 2, 0, 0, 0, 4);
    due(1, "slips", 5, 0);
    row(5, 2, 0, 0, 0, 0);
    due(0, "slips", 5, 0);
  }

  @Says(promise = 20, words = "how many pairs tell another DAY than that of the DEED")
  void p20_howManyTellAnotherDay() {
    someYear();
    row(5, 2);
    due(0, "slips", 5, 1);
    row(5, 2, 0, 100, 1, 200, 2, 204);
    due(0, "slips", 5, 1);
    row(5, 2, 0, 99, 0, 101, 1, 200, 1, 0, 2, 364);
    due(4, "slips", 5, 1);
  }

  @Says(promise = 20, words = "SLIPS: a ROW of pairs, a DEED and a DAY (0 .. 364), is a diary")
  void p20_dayIs0To364() {
    someYear();
    row(5, 1, 0, 0, 1, 364);
    would(2, "slips", 5, 1);
    for (int day : args(-1, 365, -32768, 32767)) {
      row(5, 1, 0, 0, 1, day);
      for (int what = 0; what < 2; what++) {
        refused(-13, "slips", 5, what);
      }
      row(5, 1, 0, day, 1, 0);
      refused(-13, "slips", 5, 0);
    }
  }

  @Says(promise = 20, words = "-13 (unwhole, no such DEED, no such DAY)")
  void p20_minus13UnwholeOrNoSuchDeed() {
    row(5, 0);
    would(0, "slips", 5, 0);
    row(5, 0, 0, 0);
    refused(-13, "slips", 5, 0);
    someYear();
    row(5, 0, 0, 100, 0);
    refused(-13, "slips", 5, 0);
    refused(-13, "slips", 5, 1);
    row(5, 0, 0);
    refused(-13, "slips", 5, 0);
    row(5, 0);
    would(0, "slips", 5, 0);
    row(5, 2, 0, 100, 2, 100);
    would(1, "slips", 5, 1);
    for (int k : args(-1, 3, 10, MIN, MAX)) {
      row(5, 2, 0, 100, k, 100);
      refused(-13, "slips", 5, 0);
      refused(-13, "slips", 5, 1);
      row(5, 2, k, 100, 0, 100);
      refused(-13, "slips", 5, 0);
    }
  }

  @Says(promise = 20, words = "SLIPS by the ROW in SHELF d: the fewest (what 0), how many tell another DAY (1).")
  void p20_whatIs0Or1() {
    someYear();
    row(5, 1, 2, 203, 2, 203, 2, 204);
    range("slips", args(5, 0), 1, 0, 1, 1, 2, -1);
  }

  @Says(promise = 20, words = "0 .. 100 elements")
  void p20_fiftyPairsAtMost() {
    int[] pairs = new int[100];
    deeds(10);
    for (int i = 0; i < 50; i++) {
      pairs[2 * i] = i % 10;
      pairs[2 * i + 1] = i % 10 + (i < 10 ? 1 : 0);
    }
    row(5, 0, pairs);
    would(10, "slips", 5, 0);
    would(10, "slips", 5, 1);
    play("put", 5, 98, 10);
    would(-13, "slips", 5, 0);
    play("row", 5, 0, 99);
    would(-13, "slips", 5, 0);
  }

  @Says(promise = 20, words = "-1")
  void p20_minus1NoSuchShelf() {
    someYear();
    row(0, 0, 0, 99);
    row(7, 0, 0, 100);
    range("slips", args(0, 1), 0, 0, 1, 7, 0, -1);
  }

  @Says(promise = 20, words = "-11")
  void p20_minus11NothingHeld() {
    someYear();
    for (int what = 0; what < 2; what++) {
      refused(-11, "slips", 0, what);
      would(0, "slips", 2, what);
    }
  }

  @Says(promise = 20, words = "-12 (no ROW)")
  void p20_minus12NoRow() {
    someYear();
    for (int what = 0; what < 2; what++) {
      refused(-12, "slips", 1, what);
      for (int d = 2; d < 5; d++) {
        would(0, "slips", d, what);
      }
    }
  }

  @Says(promise = 20, words = ORDER)
  void p20_orderOfRefusals() {
    someYear();
    row(5, 0, 0);
    refused(-1, "slips", 0, 2);
    refused(-1, "slips", 1, -1);
    refused(-1, "slips", 5, 2);
    refused(-1, "slips", 8, 0);
    refused(-13, "slips", 5, 0);
  }

  // ---- promise 21: trueDay

  @Says(promise = 21, words = "TRUE DAYS: of one DEED the DAYS told most often, the least of these; -4 none")
  void p21_toldMostOftenTheLeastOfThese() {
    someYear();
    row(5, 1, 0, 300, 0, 7, 0, 300, 1, 7, 1, 7);
    due(300, "trueDay", 5, 0);
    due(7, "trueDay", 5, 1);
    due(-4, "trueDay", 5, 2);
    row(5, 1, 0, 300, 0, 7, 0, 300, 0, 7, 0, 0);
    due(7, "trueDay", 5, 0);
    row(5, 1, 0, 7, 0, 8, 0, 8, 0, 7);
    due(7, "trueDay", 5, 0);
    row(5, 1, 0, 0, 0, 364);
    due(0, "trueDay", 5, 0);
    row(5, 1, 0, 364, 0, 0, 2, 364);
    due(0, "trueDay", 5, 0);
    due(364, "trueDay", 5, 2);
    row(5, 1, 0, 0, 0, 4, 0, 4);
    due(4, "trueDay", 5, 0);
  }

  @Says(promise = 21, words = "TRUE DAYS of a DEED by the ROW in SHELF d; -4.")
  void p21_minus4None() {
    someYear();
    row(5, 1);
    due(-4, "trueDay", 5, 0);
    row(5, 1, 0, 0);
    due(0, "trueDay", 5, 0);
    due(-4, "trueDay", 5, 1);
  }

  @Says(promise = 21, words = "-1")
  void p21_minus1NoSuchOne() {
    someYear();
    row(0, 0, 0, 99);
    row(7, 0, 0, 100);
    range("trueDay", args(0, 0), 0, 0, 99, 7, 100, -1);
    range("trueDay", args(7, 0), 1, 0, 100, 2, -4, -1);
  }

  @Says(promise = 21, words = "-11")
  void p21_minus11NothingHeld() {
    someYear();
    refused(-11, "trueDay", 0, 0);
    would(100, "trueDay", 2, 0);
  }

  @Says(promise = 21, words = "-12")
  void p21_minus12NoRow() {
    someYear();
    refused(-12, "trueDay", 1, 0);
    would(200, "trueDay", 3, 1);
    would(204, "trueDay", 4, 2);
  }

  @Says(promise = 21, words = "-13 likewise")
  void p21_minus13UnwholeNoSuchDeedNoSuchDay() {
    someYear();
    int[][] fine = {{0, 100, 2, 0}, {0, 100, 2, 364}};
    for (int[] cells : fine) {
      row(5, 2, cells);
      would(100, "trueDay", 5, 0);
    }
    int[][] bad = {{0}, {0, 100, 2}, {0, 100, 3, 0}, {0, 100, -1, 0}, {0, 100, 2, -1}, {0, 100, 2, 365}, {0, 100, MIN, MAX}};
    for (int[] cells : bad) {
      row(5, 2, cells);
      refused(-13, "trueDay", 5, 0);
    }
  }

  @Says(promise = 21, words = ORDER)
  void p21_orderOfRefusals() {
    someYear();
    row(5, 0, 0);
    refused(-1, "trueDay", 0, 3);
    refused(-1, "trueDay", 1, 3);
    refused(-1, "trueDay", 5, -1);
    refused(-13, "trueDay", 5, 2);
  }

  // ---- promise 22: mayBe

  @Says(promise = 22, words = "MAY BE: how many DAYS (0 .. TODAY, 364 at most) a DEED could be on")
  void p22_from0ToTodayAnd364AtMost() {
    deed(5, 0, 0, 0, 0);
    mayBeOn(365, 365, 0);
    mayBeOn(364, 365, 0);
    mayBeOn(363, 364, 0);
    mayBeOn(1, 2, 0);
    mayBeOn(0, 1, 0);
    anew();
    deed(4, 0, 364, 0, 0);
    mayBeOn(364, 1, 364);
    mayBeOn(365, 365, 0);
    anew();
    deed(4, 1, 364, 0, 0);
    mayBeOn(365, 1, 364);
    mayBeOn(364, 2, 363);
  }

  private void mayBeOn(int today, int days, int least) {
    play("today", today);
    due(days, "mayBe", 0, 0);
    due(least, "mayBe", 0, 1);
  }

  @Says(promise = 22, words = "so that just those REMEMBER it who do now; the least such; -4")
  void p22_justThoseWhoDoNow() {
    deed(2, 0, 300, 0, 2);
    mayBeOn(300, 21, 280);
    mayBeOn(320, 21, 300);
    mayBeOn(321, 20, 281);
    mayBeOn(340, 20, 300);
    mayBeOn(341, 301, 0);
    mayBeOn(299, 259, 0);
    mayBeOn(42, 2, 0);
    mayBeOn(41, 1, 0);
    mayBeOn(40, 0, -4);
    mayBeOn(0, 0, -4);
  }

  @Says(promise = 22, words = "MAY BE: how many (what 0), the least (1; -4).")
  void p22_whatIs0Or1() {
    someYear();
    range("mayBe", args(2, 0), 1, 0, 8, 1, 203, -1);
  }

  @Says(promise = 22, words = "-1")
  void p22_minus1NoSuchDeed() {
    someYear();
    range("mayBe", args(0, 1), 0, 0, 0, 2, 203, -1);
    anew();
    refused(-1, "mayBe", 0, 0);
    deeds(10);
    range("mayBe", args(0, 0), 0, 0, 355, 9, 355, -1);
  }

  // ---- promise 23: law

  @Says(promise = 23, words = "KINDS (bits) that last all so with a FIGURE; FIGURES (bits) with a KIND.")
  void p23_thatLastAllSo() {
    row(2, 2, 10, 10);
    due(1, "law", 2, 0, 0);
    due(1, "law", 2, 0, 1);
    due(768, "law", 2, 7, 1);
    row(2, 2, 9, 9);
    due(18, "law", 2, 9, 0);
    row(2, 2, 10, 11);
    due(0, "law", 2, 0, 0);
    due(0, "law", 2, 0, 1);
    row(2, 2, 11, 10);
    due(0, "law", 2, 0, 1);
    row(2, 0, 40, 40);
    due(12, "law", 2, 0, 0);
    row(2, 0, 76);
    due(4, "law", 2, 9, 0);
    due(512, "law", 2, 2, 1);
    row(2, 0, 77);
    due(0, "law", 2, 9, 0);
  }

  @Says(promise = 23, words = "LAW: a ROW tells how many days DEEDS of one KIND and FIGURE last (the least number is skipped)")
  void p23_theLeastNumberIsSkipped() {
    int[] least = {-128, -32768, MIN};
    for (int sort = 0; sort < 3; sort++) {
      row(2, sort, 10, least[sort]);
      due(1, "law", 2, 0, 0);
      due(1, "law", 2, 0, 1);
      row(2, sort, 10, least[sort] + 1);
      due(0, "law", 2, 0, 0);
      due(0, "law", 2, 0, 1);
      row(2, sort, least[sort], 10);
      due(1, "law", 2, 0, 0);
      row(2, sort, least[sort]);
      due(255, "law", 2, 0, 0);
      due(1023, "law", 2, 0, 1);
      row(2, sort);
      due(255, "law", 2, 9, 0);
      due(1023, "law", 2, 7, 1);
      row(2, sort, least[sort] + 1);
      due(0, "law", 2, 9, 0);
    }
    row(2, 1, -128, 10);
    due(0, "law", 2, 0, 0);
    row(2, 2, -32768, 10);
    due(0, "law", 2, 0, 0);
  }

  @Says(promise = 23, words = "LAW by the ROW in SHELF d: KINDS with FIGURE v (what 0, bits), FIGURES with KIND v (1, bits).")
  void p23_figureIs0To9AndKind0To7() {
    someYear();
    row(5, 0, 10);
    range("law", args(5, 0, 0), 1, 0, 1, 9, 128, -1);
    range("law", args(5, 0, 1), 1, 0, 1, 7, 768, -1);
    range("law", args(5, 7, 0), 2, 0, 0, 1, 768, -1);
  }

  @Says(promise = 23, words = "-1")
  void p23_minus1NoSuchShelf() {
    someYear();
    row(0, 0, 10);
    row(7, 0, 6);
    range("law", args(0, 3, 0), 0, 0, 0, 7, 2, -1);
  }

  @Says(promise = 23, words = "-11")
  void p23_minus11NothingHeld() {
    someYear();
    refused(-11, "law", 0, 0, 0);
    refused(-11, "law", 0, 7, 1);
    would(0, "law", 2, 0, 0);
  }

  @Says(promise = 23, words = "-12")
  void p23_minus12NoRow() {
    someYear();
    refused(-12, "law", 1, 0, 0);
    refused(-12, "law", 1, 7, 1);
    for (int d = 2; d < 5; d++) {
      would(0, "law", d, 0, 0);
    }
  }

  @Says(promise = 23, words = ORDER)
  void p23_orderOfRefusals() {
    someYear();
    for (int d = 0; d < 2; d++) {
      refused(-1, "law", d, 10, 0);
      refused(-1, "law", d, 8, 1);
      refused(-1, "law", d, -1, 1);
      refused(-1, "law", d, 0, 2);
    }
  }

  // ---- promise 24: leastInIt

  @Says(promise = 24, words = "LEAST IN IT: n DEEDS (0 .. 10) or fewer are left undone")
  void p24_nIs0To10OrFewer() {
    someYear();
    range("leastInIt", args(0, 0), 0, 0, 0, 10, 7, -1);
    range("leastInIt", args(0, 1), 0, 0, 28, 10, 0, -1);
    int[][] all = {{0, 0, 28}, {1, 2, 16}, {2, 3, 6}, {3, 7, 0}, {4, 7, 0}};
    for (int[] one : all) {
      due(one[1], "leastInIt", one[0], 0);
      due(one[2], "leastInIt", one[0], 1);
    }
    deed(4, 0, 1, 0, 0);
    due(7, "leastInIt", 10, 0);
    deed(4, 1, 1, 0, 0);
    due(7, "leastInIt", 3, 0);
    due(1, "leastInIt", 3, 1);
    due(23, "leastInIt", 4, 0);
    due(0, "leastInIt", 4, 1);
    anew();
    deeds(10);
    due(511, "leastInIt", 9, 0);
    due(10, "leastInIt", 9, 1);
    due(1023, "leastInIt", 10, 0);
    due(0, "leastInIt", 10, 1);
  }

  @Says(promise = 24, words = "those (bits) by which SIZES of all others that are told are least together, of several the least bits; that")
  void p24_ofSeveralTheLeastBits() {
    deed(0, 0, 100, 0, 0);
    deed(2, 0, 101, 0, 0);
    deed(3, 0, 99, 0, 0);
    deed(4, 9, 98, 0, 0);
    due(2, "leastInIt", 1, 0);
    due(29, "leastInIt", 1, 1);
    due(3, "leastInIt", 2, 0);
    due(19, "leastInIt", 2, 1);
    play("today", 100);
    due(1, "leastInIt", 1, 0);
    due(19, "leastInIt", 1, 1);
    play("today", 99);
    due(4, "leastInIt", 1, 0);
    due(12, "leastInIt", 2, 0);
    due(12, "leastInIt", 10, 0);
    play("today", 97);
    due(0, "leastInIt", 10, 0);
    due(0, "leastInIt", 0, 1);
  }

  @Says(promise = 24, words = "LEAST IN IT: bits (what 0), SIZES (1). -1.")
  void p24_whatIs0Or1() {
    someYear();
    range("leastInIt", args(1, 0), 1, 0, 2, 1, 16, -1);
  }

  // ---- promise 25: robin

  @Says(promise = 25, words = "ROBIN: the DEED (told) of one that most of those who saw it do not REMEMBER any more")
  void p25_mostOfThoseWhoSawIt() {
    deed(0, 0, 100, 0, 2);
    deed(0, 0, 102, 0, 12);
    deed(0, 0, 101, 1, 29);
    play("today", 110);
    due(-4, "robin", 0);
    play("today", 111);
    due(0, "robin", 0);
    play("today", 112);
    due(0, "robin", 0);
    due(2, "robin", 1);
    play("today", 113);
    due(1, "robin", 0);
    play("today", 99);
    due(-4, "robin", 0);
  }

  @Says(promise = 25, words = "of several the least; -4 none is not. TWO")
  void p25_ofSeveralTheLeast() {
    deed(0, 0, 102, 0, 2);
    deed(0, 0, 100, 0, 16);
    play("today", 113);
    due(0, "robin", 0);
    play("today", 112);
    due(1, "robin", 0);
    play("today", 110);
    due(-4, "robin", 0);
    play("today", 113);
    play("sees", 0, 1);
    due(1, "robin", 0);
    play("sees", 1, 4);
    due(-4, "robin", 0);
  }

  @Says(promise = 25, words = "ROBIN; -4.")
  void p25_minus4NoneOfHis() {
    due(-4, "robin", 0);
    deed(4, 0, 100, 2, 27);
    play("today", 100);
    due(-4, "robin", 2);
    play("today", 101);
    due(0, "robin", 2);
    due(-4, "robin", 0);
  }

  @Says(promise = 25, words = "-1")
  void p25_minus1NoSuchPerson() {
    someYear();
    range("robin", args(0), 0, 0, 0, 4, -4, -1);
  }

  // ---- promise 26: two

  @Says(promise = 26, words = "who does it alone has 3 less GUILT, both do: 1 less GUILT each, who does not has 0")
  void p26_atEachGuilt() {
    int[][] all = {
      {0, 0, 11}, {20, 20, 1}, {21, 21, 1}, {22, 22, 0}, {23, 23, 0},
      {0, 20, 10}, {20, 0, 1}, {0, 21, 10}, {21, 0, 1}, {22, 0, 1}, {0, 22, 10},
      {21, 22, 1}, {22, 21, 1}, {21, 23, 10}, {23, 21, 1}, {60, 60, 1}, {60, 61, 10}, {61, 60, 1}
    };
    for (int[] one : all) {
      would(one[2], "two", one[0], one[1]);
    }
  }

  @Says(promise = 26, words = "the first pair (10 the one's and the other's, 1 done) by which neither has more by another choice alone; -4")
  void p26_theFirstPair() {
    would(0, "two", 22, 22);
    would(1, "two", 20, 20);
    would(10, "two", 21, 23);
    would(11, "two", 10, 10);
    for (int x = 0; x < 80; x += 7) {
      for (int y = 0; y < 80; y += 3) {
        would(firstPair(x, y), "two", x, y);
      }
    }
  }

  /** GUILT of a KIND and a FIGURE, and by it the first of four pairs that both put up with. */
  private static int firstPair(int x, int y) {
    int a = guilt(x / 10, x % 10);
    int b = guilt(y / 10, y % 10);
    if (a >= 3 && b >= 3) {
      return 0;
    }
    if (b <= 3 && a >= 1) {
      return 1;
    }
    return a <= 3 && b >= 1 ? 10 : 11;
  }

  private static int guilt(int kind, int figure) {
    int[] all = {0, -1, figure + 1, 0, 0, -3, 2 * figure + 2, -1};
    return all[kind];
  }

  @Says(promise = 26, words = "TWO with 10 a KIND and a FIGURE each; -4. -1.")
  void p26_kindAndFigureAre0To79() {
    someYear();
    range("two", args(0, 0), 0, 0, 11, 79, 11, -1);
    range("two", args(0, 0), 1, 0, 11, 79, 11, -1);
    would(1, "two", 69, 0);
    would(10, "two", 0, 69);
  }

  // ---- promise 27: chance

  @Says(promise = 27, words = "SEEN BY CHANCE: each of n others (0 .. 8) sees it")
  void p27_nIs0To8() {
    range("chance", args(0, 2, 1, 0), 0, 0, 0, 8, 255, REFUSED);
    range("chance", args(0, 2, 1, 1), 0, 0, 1, 8, 256, REFUSED);
  }

  @Says(promise = 27, words = "with odds 1 in t (2 .. 20)")
  void p27_tIs2To20() {
    range("chance", args(2, 0, 1, 0), 1, 2, 3, 20, 39, REFUSED);
    range("chance", args(2, 0, 1, 1), 1, 2, 4, 20, 400, REFUSED);
    would(25600000000L, "chance", 8, 20, 8, 1);
    would(1, "chance", 8, 20, 8, 0);
    would(8616436959L, "chance", 8, 20, 1, 0);
  }

  @Says(promise = 27, words = "how likely k (0 .. 8) or more do")
  void p27_kIs0To8OrMore() {
    range("chance", args(8, 2, 0, 0), 2, 0, 1, 8, 1, REFUSED);
    range("chance", args(8, 2, 0, 1), 2, 0, 1, 8, 256, REFUSED);
    would(9, "chance", 8, 2, 7, 0);
    would(256, "chance", 8, 2, 7, 1);
    would(1, "chance", 2, 3, 2, 0);
    would(9, "chance", 2, 3, 2, 1);
    would(0, "chance", 2, 3, 3, 0);
    would(1, "chance", 2, 3, 3, 1);
    would(1, "chance", 0, 20, 0, 0);
    would(1, "chance", 0, 20, 0, 1);
  }

  @Says(promise = 27, words = "a fraction in least terms. MEAN SIZE")
  void p27_inLeastTerms() {
    would(1, "chance", 3, 2, 2, 0);
    would(2, "chance", 3, 2, 2, 1);
    would(5, "chance", 2, 3, 1, 0);
    would(9, "chance", 2, 3, 1, 1);
    would(1, "chance", 8, 20, 0, 0);
    would(1, "chance", 8, 20, 0, 1);
  }

  @Says(promise = 27, words = "SEEN BY CHANCE; part 0 above, 1 below the line. Refused as told: -1.")
  void p27_partIs0Or1() {
    someYear();
    range("chance", args(2, 2, 1, 0), 3, 0, 3, 1, 4, REFUSED);
  }

  // ---- promise 28: mean

  @Says(promise = 28, words = "MEAN SIZE of all that is told: a fraction in least terms (0 by 1 of nothing).")
  void p28_0By1OfNothing() {
    due(0, "mean", 0);
    due(1, "mean", 1);
    deed(0, 0, 100, 0, 0);
    deed(7, 0, 101, 0, 0);
    play("today", 99);
    due(0, "mean", 0);
    due(1, "mean", 1);
    play("today", 100);
    due(10, "mean", 0);
    due(1, "mean", 1);
    play("today", 101);
    due(15, "mean", 0);
    due(2, "mean", 1);
    anew();
    deed(4, 0, 100, 0, 0);
    deed(4, 0, 100, 0, 0);
    due(0, "mean", 0);
    due(1, "mean", 1);
    deed(4, 2, 100, 0, 0);
    deed(4, 4, 100, 0, 0);
    due(3, "mean", 0);
    due(2, "mean", 1);
  }

  @Says(promise = 28, words = "MEAN SIZE; part likewise. Refused as told: -1.")
  void p28_partIs0Or1() {
    someYear();
    range("mean", args(0), 0, 0, 28, 1, 3, REFUSED);
  }

  // ---- promise 29: gap

  @Says(promise = 29, words = "GAP: the most days one behind the other (0 .. TODAY, 364 at most) on which no DEED is")
  void p29_from0ToTodayAnd364AtMost() {
    gapOn(365, 365, 0);
    gapOn(364, 365, 0);
    gapOn(363, 364, 0);
    gapOn(1, 2, 0);
    gapOn(0, 1, 0);
    deed(0, 0, 364, 0, 0);
    gapOn(365, 364, 0);
    gapOn(364, 364, 0);
    gapOn(363, 364, 0);
    deed(0, 0, 0, 0, 0);
    gapOn(364, 363, 1);
    gapOn(1, 1, 1);
    gapOn(0, 0, -4);
  }

  private void gapOn(int today, int most, int first) {
    play("today", today);
    due(most, "gap", 0);
    due(first, "gap", 1);
  }

  @Says(promise = 29, words = "the first of the first such; -4 (no such day)")
  void p29_theFirstOfTheFirstSuch() {
    deed(0, 0, 10, 0, 0);
    deed(0, 0, 21, 0, 0);
    gapOn(31, 10, 0);
    gapOn(32, 11, 22);
    deed(0, 0, 0, 0, 0);
    gapOn(31, 10, 11);
    gapOn(20, 10, 11);
    gapOn(19, 9, 1);
    gapOn(18, 9, 1);
    anew();
    deed(0, 0, 1, 0, 0);
    deed(0, 0, 0, 0, 0);
    gapOn(1, 0, -4);
    gapOn(2, 1, 2);
    gapOn(0, 0, -4);
  }

  @Says(promise = 29, words = "GAP: how many (what 0), the first (1; -4). -1.")
  void p29_whatIs0Or1() {
    someYear();
    range("gap", args(0), 0, 0, 100, 1, 0, -1);
    deed(0, 0, 50, 0, 0);
    range("gap", args(0), 0, 0, 99, 1, 101, -1);
  }

  // ---- promise 30: quarrel

  @Says(promise = 30, words = "QUARREL: the two (10 the lesser and the other) who both did or saw most DEEDS that just one of them REMEMBERS")
  void p30_bothKnewAndJustOneRemembers() {
    deed(2, 0, 100, 4, 8);
    quarrelOn(99, -4);
    quarrelOn(100, -4);
    quarrelOn(120, -4);
    quarrelOn(121, 34);
    quarrelOn(140, 34);
    quarrelOn(141, -4);
    play("sees", 0, 3);
    quarrelOn(121, -4);
    play("sees", 0, 0);
    quarrelOn(121, 4);
    anew();
    deed(2, 0, 100, 1, 1);
    quarrelOn(121, 1);
    anew();
    deed(2, 0, 100, 1, 1);
    deed(2, 0, 100, 3, 4);
    deed(2, 0, 100, 2, 8);
    quarrelOn(121, 23);
  }

  private void quarrelOn(int today, int want) {
    play("today", today);
    due(want, "quarrel");
  }

  @Says(promise = 30, words = "of several the first; -4 none. FORGED")
  void p30_ofSeveralTheFirst() {
    deed(2, 0, 100, 3, 16);
    deed(2, 0, 100, 2, 16);
    quarrelOn(121, 24);
    deed(2, 0, 100, 0, 16);
    quarrelOn(121, 4);
    deed(2, 0, 100, 4, 8);
    quarrelOn(121, 34);
  }

  @Says(promise = 30, words = "QUARREL; -4.")
  void p30_minus4None() {
    due(-4, "quarrel");
    deed(2, 0, 100, 3, 0);
    quarrelOn(110, -4);
    quarrelOn(121, -4);
    play("sees", 0, 4);
    quarrelOn(120, -4);
    quarrelOn(121, 34);
  }
}
