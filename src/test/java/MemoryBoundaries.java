/** Boundaries of who remembers: promises 8 to 13. */
public final class MemoryBoundaries extends Boundaries {
  private static final String ORDER = "Answers of several REFUSALS are the first one as they are told at the call.";

  private void tenForgotten() {
    play("keep", 6, 1, 4, 0);
    for (int k = 0; k < 10; k++) {
      play("done", 6, 300, k % 5, 31);
    }
  }

  // ---- promise 8: remembers

  @Says(promise = 8, words = "One REMEMBERS a DEED, if it is on TODAY or ahead of it")
  void p08_onTodayOrAheadOfIt() {
    deed(0, 0, 100, 0, 2);
    for (int p = 0; p < 2; p++) {
      onDay(99, 0, p);
      onDay(100, 1, p);
      onDay(101, 1, p);
    }
  }

  private void onDay(int today, int want, int p) {
    play("today", today);
    would(want, "remembers", p, 0);
  }

  @Says(promise = 8, words = "one did it or saw it")
  void p08_oneDidItOrSawIt() {
    deed(0, 0, 100, 1, 4);
    play("today", 100);
    due(0, "remembers", 0, 0);
    due(1, "remembers", 1, 0);
    due(1, "remembers", 2, 0);
    due(0, "remembers", 3, 0);
    play("sees", 0, 2);
    due(0, "remembers", 2, 0);
    play("sees", 0, 3);
    due(1, "remembers", 3, 0);
  }

  @Says(promise = 8, words = "it is no more days ago than OWN (who did it)")
  void p08_noMoreDaysAgoThanOwn() {
    deed(2, 0, 100, 0, 2);
    onDay(120, 1, 0);
    onDay(121, 0, 0);
    anew();
    deed(1, 0, 100, 0, 2);
    onDay(115, 1, 0);
    onDay(116, 0, 0);
    anew();
    deed(6, 9, 100, 0, 2);
    onDay(100, 1, 0);
    onDay(101, 0, 0);
    anew();
    deed(5, 0, 0, 0, 2);
    onDay(365, 1, 0);
    onDay(0, 1, 0);
  }

  @Says(promise = 8, words = "or than it LASTS (who saw it)")
  void p08_noMoreDaysAgoThanItLasts() {
    deed(2, 0, 100, 0, 2);
    onDay(140, 1, 1);
    onDay(141, 0, 1);
    anew();
    deed(1, 0, 100, 0, 2);
    onDay(105, 1, 1);
    onDay(106, 0, 1);
    anew();
    deed(4, 0, 100, 0, 2);
    onDay(100, 1, 1);
    onDay(101, 0, 1);
    anew();
    deed(5, 0, 0, 0, 2);
    onDay(25, 1, 1);
    onDay(26, 0, 1);
  }

  @Says(promise = 8, words = "-1")
  void p08_minus1NoSuchOne() {
    someYear();
    range("remembers", args(0, 1), 0, 0, 1, 4, 1, -1);
    range("remembers", args(3, 0), 1, 0, 0, 2, 1, -1);
    anew();
    refused(-1, "remembers", 0, 0);
    deeds(10);
    play("today", 9);
    range("remembers", args(0, 0), 1, 0, 1, 9, 1, -1);
  }

  // ---- promise 9: knows

  @Says(promise = 9, words = "KNOWS (bits). -1.")
  void p09_minus1NoSuchPerson() {
    someYear();
    range("knows", args(0), 0, 0, 2, 4, 2, -1);
  }

  @Says(promise = 9, words = "KNOWS: DEEDS (bits) that one REMEMBERS.")
  void p09_fromNoBitsToAllTen() {
    due(0, "knows", 0);
    deeds(10);
    due(0, "knows", 0);
    play("today", 10);
    due(1023, "knows", 0);
    due(1023, "knows", 1);
    due(0, "knows", 2);
    play("today", 11);
    due(1022, "knows", 0);
    play("today", 0);
    due(1, "knows", 1);
  }

  // ---- promise 10: forgotten

  @Says(promise = 10, words = "FORGOTTEN: those TODAY or ahead of it that nobody does.")
  void p10_todayOrAheadOfIt() {
    deed(4, 0, 100, 0, 0);
    deed(6, 0, 101, 0, 0);
    play("today", 99);
    due(0, "forgotten");
    play("today", 100);
    due(0, "forgotten");
    play("today", 101);
    due(1, "forgotten");
    play("today", 102);
    due(3, "forgotten");
  }

  @Says(promise = 10, words = "FORGOTTEN (bits).")
  void p10_nobodyRemembersIt() {
    due(0, "forgotten");
    deed(1, 0, 100, 0, 2);
    deed(2, 0, 100, 1, 1);
    play("today", 115);
    due(0, "forgotten");
    play("today", 116);
    due(1, "forgotten");
    play("today", 140);
    due(1, "forgotten");
    play("today", 141);
    due(3, "forgotten");
    anew();
    tenForgotten();
    play("today", 300);
    due(0, "forgotten");
    play("today", 301);
    due(1023, "forgotten");
  }

  // ---- promise 11: forgets

  @Says(promise = 11, words = "the first day (TODAY .. 365) on which one does not REMEMBER a DEED that one does now; -4")
  void p11_theFirstDayUpTo365() {
    deed(0, 0, 354, 0, 2);
    deed(0, 1, 354, 0, 2);
    deed(4, 0, 364, 0, 2);
    deed(4, 1, 364, 0, 2);
    deed(5, 9, 0, 0, 2);
    play("today", 364);
    for (int p = 0; p < 2; p++) {
      due(365, "forgets", p, 0);
      due(-4, "forgets", p, 1);
      due(365, "forgets", p, 2);
      due(-4, "forgets", p, 3);
    }
    due(-4, "forgets", 0, 4);
    play("today", 365);
    due(-4, "forgets", 0, 1);
    due(-3, "forgets", 0, 0);
    due(-4, "forgets", 0, 4);
  }

  @Says(promise = 11, words = "FORGETS; -4.")
  void p11_fromItsDayToTheLast() {
    deed(2, 0, 0, 0, 2);
    play("today", 0);
    due(21, "forgets", 0, 0);
    due(41, "forgets", 1, 0);
    play("today", 20);
    due(21, "forgets", 0, 0);
    play("today", 21);
    due(-3, "forgets", 0, 0);
    due(41, "forgets", 1, 0);
    play("today", 40);
    due(41, "forgets", 1, 0);
    play("today", 41);
    due(-3, "forgets", 1, 0);
  }

  @Says(promise = 11, words = "-1")
  void p11_minus1NoSuchOne() {
    someYear();
    range("forgets", args(0, 1), 0, 0, 245, 4, 245, -1);
    range("forgets", args(3, 0), 1, 0, -3, 2, 212, -1);
    would(223, "forgets", 3, 1);
  }

  @Says(promise = 11, words = "-3 one does not REMEMBER it")
  void p11_minus3OneDoesNotRememberIt() {
    deed(0, 0, 100, 0, 2);
    play("today", 99);
    refused(-3, "forgets", 0, 0);
    refused(-3, "forgets", 1, 0);
    play("today", 100);
    would(111, "forgets", 0, 0);
    refused(-3, "forgets", 2, 0);
    play("today", 110);
    would(111, "forgets", 1, 0);
    play("today", 111);
    refused(-3, "forgets", 0, 0);
    refused(-3, "forgets", 1, 0);
  }

  @Says(promise = 11, words = ORDER)
  void p11_orderOfRefusals() {
    someYear();
    refused(-3, "forgets", 4, 2);
    refused(-1, "forgets", 5, 2);
    refused(-1, "forgets", 4, 3);
    refused(-1, "forgets", -1, -1);
  }

  // ---- promise 12: only

  @Says(promise = 12, words = "ONLY: DEEDS (bits) that just one REMEMBERS")
  void p12_justOne() {
    due(0, "only");
    deed(0, 0, 100, 0, 0);
    deed(0, 0, 100, 0, 2);
    deed(0, 0, 101, 3, 0);
    play("today", 99);
    due(0, "only");
    play("today", 100);
    due(1, "only");
    play("sees", 1, 1);
    due(3, "only");
    play("sees", 0, 4);
    due(2, "only");
    play("today", 110);
    due(6, "only");
    play("today", 111);
    due(4, "only");
    play("today", 112);
    due(0, "only");
  }

  @Says(promise = 12, words = "ONLY (bits).")
  void p12_fromNoBitsToAllTen() {
    play("keep", 6, 1, 2, 0);
    for (int k = 0; k < 10; k++) {
      play("done", 6, 300, 0, 16);
    }
    play("today", 320);
    due(0, "only");
    play("today", 321);
    due(1023, "only");
    play("today", 340);
    due(1023, "only");
    play("today", 341);
    due(0, "only");
  }

  // ---- promise 13: witnesses

  @Says(promise = 13, words = "the fewest PEOPLE (bits, of several the least) who together REMEMBER all that anybody does")
  void p13_theFewestOfSeveralTheLeast() {
    deed(0, 0, 100, 3, 16);
    deed(0, 0, 100, 4, 8);
    play("today", 100);
    due(8, "witnesses");
    play("sees", 0, 4);
    due(8, "witnesses");
    play("sees", 1, 3);
    due(24, "witnesses");
    play("sees", 0, 4);
    due(16, "witnesses");
    play("sees", 0, 2);
    play("sees", 1, 2);
    due(4, "witnesses");
  }

  @Says(promise = 13, words = "WITNESSES (bits).")
  void p13_fromNobodyToAllFive() {
    due(0, "witnesses");
    for (int p = 0; p < 5; p++) {
      deed(4, 0, 100, p, 0);
    }
    play("today", 99);
    due(0, "witnesses");
    play("today", 100);
    due(31, "witnesses");
    play("sees", 4, 0);
    due(15, "witnesses");
    play("today", 101);
    due(0, "witnesses");
    anew();
    for (int k = 0; k < 10; k++) {
      deed(0, 0, 100, k % 5, 0);
    }
    play("today", 110);
    due(31, "witnesses");
    play("today", 111);
    due(0, "witnesses");
  }
}
