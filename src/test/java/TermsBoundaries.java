/** Boundaries of what is said ahead of the promises: limits, and the laws of the KINDS. */
public final class TermsBoundaries extends Boundaries {
  @Says(promise = 0, words = "An object is used for at most 512 calls after it has been made")
  void p00_the512thCallToo() {
    for (int call = 1; call < 512; call++) {
      play("today", call % 300);
    }
    due(211, "today", 0);
  }

  // ---- LASTS

  @Says(promise = 0, words = "LASTS (how many days it is remembered by those who saw it): DEED 10 and FIGURE")
  void p00_deedLasts10AndFigure() {
    lasts(0, 0, 10);
    lasts(0, 9, 19);
  }

  @Says(promise = 0, words = "GOOD half of a DEED's, cut")
  void p00_goodLastsHalfOfADeedsCut() {
    lasts(1, 0, 5);
    lasts(1, 1, 5);
    lasts(1, 2, 6);
    lasts(1, 9, 9);
  }

  @Says(promise = 0, words = "UNKIND 4 times a DEED's")
  void p00_unkindLasts4TimesADeeds() {
    lasts(2, 0, 40);
    lasts(2, 9, 76);
  }

  @Says(promise = 0, words = "LOSS 30 more")
  void p00_lossLasts30More() {
    lasts(3, 0, 40);
    lasts(3, 9, 49);
  }

  @Says(promise = 0, words = "LOSS 30 more; WIND FIGURE")
  void p00_windLastsFigure() {
    lasts(4, 0, 0);
    lasts(4, 1, 1);
    lasts(4, 9, 9);
  }

  @Says(promise = 0, words = "PROUD 20 more than a GOOD's")
  void p00_proudLasts20MoreThanAGoods() {
    lasts(5, 0, 25);
    lasts(5, 1, 25);
    lasts(5, 9, 29);
  }

  @Says(promise = 0, words = "SHAME half of an UNKIND's, cut; HAND 1 more than a GOOD's.")
  void p00_shameLastsHalfOfAnUnkindsCut() {
    lasts(6, 0, 20);
    lasts(6, 1, 22);
    lasts(6, 9, 38);
  }

  @Says(promise = 0, words = "HAND 1 more than a GOOD's")
  void p00_handLasts1MoreThanAGoods() {
    lasts(7, 0, 6);
    lasts(7, 1, 6);
    lasts(7, 9, 10);
  }

  /** It is REMEMBERED so many days on, and not a day longer. */
  private void lasts(int kind, int figure, int days) {
    anew();
    deed(kind, figure, 100, 0, 2);
    due(days, "deed", 0, 5);
    play("today", 100 + days);
    due(1, "remembers", 1, 0);
    play("today", 101 + days);
    due(0, "remembers", 1, 0);
  }

  // ---- OWN

  @Says(promise = 0, words = "OWN (likewise by WHO did it): DEED as LASTS")
  void p00_deedOwnAsLasts() {
    own(0, 0, 10);
    own(0, 9, 19);
  }

  @Says(promise = 0, words = "GOOD 3 times what it LASTS")
  void p00_goodOwn3TimesWhatItLasts() {
    own(1, 0, 15);
    own(1, 1, 15);
    own(1, 9, 27);
  }

  @Says(promise = 0, words = "UNKIND half of what it LASTS, cut")
  void p00_unkindOwnHalfOfWhatItLastsCut() {
    own(2, 0, 20);
    own(2, 1, 22);
    own(2, 9, 38);
  }

  @Says(promise = 0, words = "PROUD 365")
  void p00_proudOwn365() {
    own(5, 0, 365);
    own(5, 9, 365);
    deed(5, 0, 0, 1, 0);
    play("today", 365);
    due(1, "remembers", 1, 1);
    due(-4, "forgets", 1, 1);
  }

  @Says(promise = 0, words = "SHAME 0; others as what they are under (of what THEY LAST)")
  void p00_shameOwn0() {
    own(6, 0, 0);
    own(6, 9, 0);
  }

  @Says(promise = 0, words = "others as what they are under (of what THEY LAST)")
  void p00_othersOwnAsWhatTheyAreUnder() {
    own(3, 0, 40);
    own(3, 9, 49);
    own(4, 0, 0);
    own(4, 9, 9);
    own(7, 0, 18);
    own(7, 9, 30);
  }

  private void own(int kind, int figure, int days) {
    anew();
    deed(kind, figure, 0, 0, 2);
    due(days, "deed", 0, 6);
    play("today", days);
    due(1, "remembers", 0, 0);
    if (days < 365) {
      play("today", days + 1);
      due(0, "remembers", 0, 0);
    }
  }

  // ---- SIZE

  @Says(promise = 0, words = "SIZE (points in print): DEED 10; GOOD 4 less; UNKIND 2 more; WIND FIGURE; PROUD twice a GOOD's; HAND 1 less than a GOOD's; others as what they are under.")
  void p00_sizeWithFigure0AndWith9() {
    int[] with0 = {10, 6, 12, 10, 0, 12, 12, 5};
    int[] with9 = {10, 6, 12, 10, 9, 12, 12, 5};
    for (int kind = 0; kind < 8; kind++) {
      anew();
      deed(kind, 0, 0, 0, 0);
      deed(kind, 9, 0, 0, 0);
      due(with0[kind], "deed", 0, 7);
      due(with9[kind], "deed", 1, 7);
    }
  }

  // ---- GUILT

  @Says(promise = 0, words = "GUILT: DEED 0; UNKIND FIGURE and 1; SHAME twice an UNKIND's; GOOD 1 less (below 0); PROUD 2 less than a GOOD's; others as what they are under.")
  void p00_guiltWithFigure0AndWith9() {
    int[] with0 = {0, -1, 1, 0, 0, -3, 2, -1};
    int[] with9 = {0, -1, 10, 0, 0, -3, 20, -1};
    for (int kind = 0; kind < 8; kind++) {
      anew();
      deed(kind, 0, 0, 0, 0);
      deed(kind, 9, 0, 0, 0);
      due(with0[kind], "guilt", 0);
      due(with9[kind], "guilt", 1);
    }
  }

  // ---- numbers that stand in the terms, and what is refused by them

  @Says(promise = 0, words = "PEOPLE 0 .. 4.")
  void p00_peopleAre0To4() {
    someYear();
    String[] calls = {"knows", "robin"};
    int[] of0 = {2, 0};
    int[] of4 = {2, -4};
    for (int i = 0; i < 2; i++) {
      range(calls[i], args(0), 0, 0, of0[i], 4, of4[i], -1);
    }
  }

  @Says(promise = 0, words = "TODAY (0 .. 365; 365 at first)")
  void p00_todayIs0To365() {
    range("today", args(0), 0, 0, 365, 365, 365, -1);
  }

  @Says(promise = 0, words = "DEEDS 0 .. 9 as they come (10 at most)")
  void p00_deedsAre0To9() {
    deeds(10);
    would(9, "deed", 9, 2);
    refused(-1, "deed", 10, 2);
    refused(-2, "done", 6, 0, 0, 0);
  }

  @Says(promise = 0, words = "of KINDS, each with a FIGURE (0 .. 9), a DAY (0 .. 364), WHO did it, by whom it was SEEN (bits 0 .. 31; WHO aside)")
  void p00_figureDayAndSeen() {
    range("keep", args(0, 1, 0, 0), 3, 0, 0, 9, 0, -1);
    play("keep", 0, 1, 0, 0);
    range("done", args(0, 0, 0, 0), 1, 0, 0, 364, 0, -1);
    range("done", args(0, 0, 0, 0), 3, 0, 0, 31, 0, -1);
    play("done", 0, 0, 0, 31);
    due(30, "deed", 0, 4);
  }

  @Says(promise = 0, words = "Their REFUSALS: -11 nothing is held where something is wanted; -12 it is of another kind; -13 a place that isn't there (a number or a size that isn't as told, too); -14 a size below 0; -15 a FAILURE that is none.")
  void p00_refusalsOfShelves() {
    someYear();
    refused(-11, "cost", 0);
    refused(-12, "cost", 2);
    refused(-12, "put", 1, 0, 0);
    refused(-13, "put", 2, 2, 0);
    refused(-13, "copy", 2, 0, 2, 0, -1);
    refused(-14, "row", 2, 0, -1);
    play("keep", 1, 1, 4, 9);
    refused(-15, "toss", 1);
  }

  @Says(promise = 0, words = "REFUSALS (answers; nothing changes): -1 no such one, a number out of its range; -2 there is no room; -3 it is not as it must be; -4 none.")
  void p00_nothingChanges() {
    deeds(10);
    play("image");
    play("sees", 0, 4);
    shelves();
    refused(-1, "done", 1, 365, 0, 0);
    refused(-2, "done", 1, 0, 0, 0);
    refused(-3, "sees", 0, 0);
    refused(-4, "robin", 4);
    refused(-4, "looksUp", 4, 0);
    refused(-4, "quarrel");
  }

  @Says(promise = 0, words = "Answers of several REFUSALS are the first one as they are told at the call.")
  void p00_theFirstRefusalIsTold() {
    deeds(10);
    shelves();
    refused(-1, "done", 0, 365, 0, 0);
    refused(-11, "done", 0, 0, 0, 0);
    refused(-12, "done", 2, 0, 0, 0);
    refused(-2, "done", 1, 0, 0, 0);
  }

  @Says(promise = 0, words = "Of guilt() and of longs they are 1000000000 less them (-1 is told as 1000000001).")
  void p00_refusalsOfGuiltAndOfLongs() {
    refused(1000000001, "guilt", 0);
    refused(1000000001, "chance", 9, 2, 0, 0);
    refused(1000000001, "mean", 2);
    would(1, "chance", 8, 2, 0, 0);
    would(1, "mean", 1);
  }
}
