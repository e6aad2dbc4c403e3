/** Boundaries of pages: promises 14 to 19. */
public final class PagesBoundaries extends Boundaries {
  // ---- promise 14: place, the ALMANAC

  @Says(promise = 14, words = "The ALMANAC tells all DEEDS that are TODAY or ahead of it by DAY")
  void p14_todayOrAheadOfItByDay() {
    deed(0, 0, 101, 0, 0);
    deed(0, 0, 100, 0, 0);
    play("today", 99);
    due(-4, "place", 1, 0);
    play("today", 100);
    due(0, "place", 1, 0);
    due(-4, "place", 0, 0);
    play("today", 101);
    due(0, "place", 1, 0);
    due(1, "place", 0, 0);
  }

  @Says(promise = 14, words = "of one DAY greater SIZES first")
  void p14_ofOneDayGreaterSizesFirst() {
    deed(4, 9, 100, 0, 0);
    deed(0, 0, 100, 0, 0);
    due(1, "place", 0, 0);
    due(0, "place", 1, 0);
    deed(2, 0, 101, 0, 0);
    due(0, "place", 1, 0);
    due(2, "place", 2, 0);
    deed(1, 0, 100, 0, 0);
    deed(7, 0, 100, 0, 0);
    due(2, "place", 3, 0);
    due(3, "place", 4, 0);
    due(4, "place", 2, 0);
  }

  @Says(promise = 14, words = "greater SIZES first, then by numbers")
  void p14_ofOneSizeByNumbers() {
    deed(0, 0, 100, 0, 0);
    deed(3, 9, 100, 4, 0);
    deed(0, 9, 100, 0, 31);
    for (int k = 0; k < 3; k++) {
      due(k, "place", k, 0);
    }
    deed(2, 0, 100, 0, 0);
    due(0, "place", 3, 0);
    due(3, "place", 2, 0);
  }

  @Says(promise = 14, words = "PLACE of one: how many are told ahead of it")
  void p14_placesFrom0To9() {
    for (int k = 0; k < 10; k++) {
      deed(0, 0, 9 - k, 0, 0);
    }
    for (int k = 0; k < 10; k++) {
      due(9 - k, "place", k, 0);
    }
    play("today", 0);
    due(0, "place", 9, 0);
    due(-4, "place", 8, 0);
  }

  @Says(promise = 14, words = "PAGES 0, 1, ..")
  void p14_pagesFrom0On() {
    for (int k = 0; k < 10; k++) {
      deed(2, 0, k, 0, 0);
    }
    for (int k = 0; k < 10; k++) {
      due(k / 2, "place", k, 1);
    }
  }

  @Says(promise = 14, words = "PLACE (what 0; -4), PAGE (1; -4)")
  void p14_placeAndPage() {
    someYear();
    deed(0, 0, 210, 0, 0);
    deed(0, 0, 211, 0, 0);
    due(3, "place", 3, 0);
    due(1, "place", 3, 1);
    due(-4, "place", 4, 0);
    due(-4, "place", 4, 1);
    range("place", args(3, 0), 1, 0, 3, 1, 1, -1);
  }

  @Says(promise = 14, words = "PLACE, PAGE of a DEED; -4 it is not told.")
  void p14_minus4ItIsNotTold() {
    deed(0, 0, 364, 0, 0);
    for (int what = 0; what < 2; what++) {
      play("today", 363);
      due(-4, "place", 0, what);
      play("today", 364);
      due(0, "place", 0, what);
      play("today", 365);
      due(0, "place", 0, what);
    }
  }

  @Says(promise = 14, words = "-1")
  void p14_minus1NoSuchOne() {
    someYear();
    range("place", args(0, 0), 0, 0, 0, 2, 2, -1);
    anew();
    refused(-1, "place", 0, 0);
    deeds(10);
    range("place", args(0, 1), 0, 0, 0, 9, 3, -1);
  }

  // ---- promise 15: pages

  @Says(promise = 15, words = "PAGES: how many there are.")
  void p15_howManyThereAre() {
    due(0, "pages");
    deed(4, 0, 100, 0, 0);
    due(1, "pages");
    play("today", 100);
    due(1, "pages");
    play("today", 99);
    due(0, "pages");
    anew();
    for (int k = 0; k < 10; k++) {
      deed(2, 0, k, 0, 0);
    }
    due(5, "pages");
  }

  @Says(promise = 15, words = "a PAGE is full with 30 points")
  void p15_aPageIsFullWith30Points() {
    deed(0, 0, 1, 0, 0);
    deed(0, 0, 2, 0, 0);
    deed(4, 9, 3, 0, 0);
    due(1, "pages");
    deed(4, 1, 4, 0, 0);
    due(1, "pages");
    deed(4, 0, 5, 0, 0);
    due(1, "pages");
    deed(4, 1, 6, 0, 0);
    due(2, "pages");
    anew();
    deed(2, 0, 1, 0, 0);
    deed(2, 0, 2, 0, 0);
    deed(1, 0, 3, 0, 0);
    due(1, "pages");
    deed(4, 7, 3, 0, 0);
    due(2, "pages");
    due(1, "place", 2, 1);
    due(1, "place", 3, 1);
  }

  @Says(promise = 15, words = "a DEED that does not fit any more begins the next PAGE")
  void p15_whatDoesNotFitBeginsTheNextPage() {
    deed(0, 0, 1, 0, 0);
    deed(0, 0, 2, 0, 0);
    deed(2, 0, 3, 0, 0);
    deed(4, 5, 4, 0, 0);
    deed(2, 0, 5, 0, 0);
    deed(4, 1, 6, 0, 0);
    deed(4, 1, 7, 0, 0);
    int[] pages = {0, 0, 1, 1, 1, 1, 2};
    for (int k = 0; k < pages.length; k++) {
      due(pages[k], "place", k, 1);
    }
    due(3, "pages");
  }

  /** None of the KINDS has so many: the greatest SIZE is 12. */
  @Says(promise = 15, words = "one that has more than 30 alone, too")
  void p15_noneHasMoreThan30() {
    for (int kind = 0; kind < 8; kind++) {
      for (int figure = 0; figure < 10; figure += 9) {
        anew();
        for (int k = 0; k < 2; k++) {
          deed(kind, figure, k, 0, 0);
        }
        due(1, "pages");
      }
    }
  }

  // ---- promise 16: looksUp

  @Says(promise = 16, words = "LOOKS UP: the PAGE of the DEED of one with the greatest SIZE")
  void p16_theGreatestSize() {
    deed(7, 0, 1, 0, 0);
    deed(2, 0, 2, 1, 1);
    deed(2, 0, 3, 1, 1);
    due(0, "looksUp", 0, 0);
    deed(1, 0, 4, 0, 0);
    due(1, "looksUp", 0, 0);
    anew();
    deed(4, 0, 1, 0, 0);
    due(0, "looksUp", 0, 0);
    due(-4, "looksUp", 1, 0);
  }

  @Says(promise = 16, words = "with the greatest SIZE, of several the first told")
  void p16_ofSeveralTheFirstTold() {
    deed(1, 0, 4, 0, 0);
    deed(2, 0, 2, 1, 1);
    deed(2, 0, 3, 1, 1);
    deed(1, 0, 1, 0, 0);
    due(0, "place", 3, 1);
    due(1, "place", 0, 1);
    due(0, "looksUp", 0, 0);
    due(14, "looksUp", 0, 1);
  }

  @Says(promise = 16, words = "of several the first told; -4; what he finds there")
  void p16_minus4NoneOfHisIsTold() {
    deed(0, 0, 100, 3, 7);
    for (int p = 0; p < 5; p++) {
      due(p == 3 ? 0 : -4, "looksUp", p, 0);
    }
    play("today", 99);
    due(-4, "looksUp", 3, 0);
    due(0, "looksUp", 3, 1);
    play("today", 100);
    due(0, "looksUp", 3, 0);
  }

  @Says(promise = 16, words = "LOOKS UP: the PAGE (what 0; -4), what (1, bits; 0 without).")
  void p16_pageAndWhat() {
    someYear();
    range("looksUp", args(3, 0), 1, 0, 0, 1, 0, -1);
    range("looksUp", args(0, 0), 1, 0, 0, 1, 1, -1);
    due(-4, "looksUp", 4, 0);
    due(0, "looksUp", 4, 1);
  }

  @Says(promise = 16, words = "what he finds there that he does not REMEMBER (bits of that PAGE's DEEDS that he did or saw)")
  void p16_whatHeDoesNotRemember() {
    deed(0, 0, 100, 0, 0);
    deed(2, 0, 100, 1, 1);
    deed(0, 0, 101, 2, 2);
    deed(0, 0, 101, 1, 1);
    play("today", 110);
    due(0, "looksUp", 0, 1);
    play("today", 111);
    due(1, "looksUp", 0, 1);
    play("today", 112);
    due(1, "looksUp", 0, 1);
    due(0, "looksUp", 1, 1);
    play("today", 140);
    due(1, "looksUp", 0, 1);
    due(2, "looksUp", 1, 1);
    play("today", 141);
    due(3, "looksUp", 0, 1);
  }

  @Says(promise = 16, words = "-1")
  void p16_minus1NoSuchPerson() {
    someYear();
    range("looksUp", args(0, 0), 0, 0, 0, 4, -4, -1);
    range("looksUp", args(0, 1), 0, 0, 1, 4, 0, -1);
  }

  // ---- promise 17: uncut

  @Says(promise = 17, words = "UNCUT: the last n PAGES (0 .. 9) are uncut: DEEDS (bits) told on these")
  void p17_theLastPages() {
    deeds(10);
    int[] told = {0, 512, 960, 1016, 1023, 1023, 1023, 1023, 1023, 1023};
    for (int n = 0; n < 10; n++) {
      due(told[n], "uncut", n, 0);
    }
    range("uncut", args(0, 0), 0, 0, 0, 9, 1023, -1);
    play("today", 2);
    due(0, "uncut", 0, 0);
    due(7, "uncut", 1, 0);
    play("today", 3);
    due(8, "uncut", 1, 0);
    due(15, "uncut", 2, 0);
  }

  @Says(promise = 17, words = "PEOPLE (bits) who did none of those on the others")
  void p17_whoDidNoneOfThoseOnTheOthers() {
    for (int k = 0; k < 5; k++) {
      deed(0, 0, k, k, 31);
    }
    due(0, "uncut", 0, 1);
    due(24, "uncut", 1, 1);
    due(31, "uncut", 2, 1);
    due(31, "uncut", 9, 1);
    play("today", 3);
    due(16, "uncut", 0, 1);
    due(24, "uncut", 1, 1);
    play("today", 2);
    due(24, "uncut", 0, 1);
    due(31, "uncut", 1, 1);
    deed(0, 0, 0, 4, 0);
    due(8, "uncut", 0, 1);
    range("uncut", args(0, 1), 0, 0, 8, 9, 31, -1);
  }

  @Says(promise = 17, words = "UNCUT: DEEDS (what 0, bits), PEOPLE (1, bits).")
  void p17_whatIs0Or1() {
    someYear();
    range("uncut", args(0, 0), 1, 0, 0, 1, 18, -1);
    range("uncut", args(1, 0), 1, 0, 7, 1, 31, -1);
  }

  @Says(promise = 17, words = "-1")
  void p17_minus1NoSuchNumber() {
    refused(-1, "uncut", -1, 0);
    would(0, "uncut", 0, 0);
    would(0, "uncut", 9, 0);
    refused(-1, "uncut", 10, 0);
    would(31, "uncut", 0, 1);
    refused(-1, "uncut", 0, 2);
  }

  // ---- promise 18: guilty

  @Says(promise = 18, words = "PEOPLE (bits) whose GUILT (of all DEEDS they did that are told) is g (-30 .. 99) or more: they buy")
  void p18_gIsMinus30To99() {
    someYear();
    range("guilty", args(0), 0, -30, 31, 99, 0, -1);
    due(31, "guilty", -1);
    due(27, "guilty", 0);
    due(8, "guilty", 1);
    due(8, "guilty", 2);
    due(0, "guilty", 3);
  }

  @Says(promise = 18, words = "(of all DEEDS they did that are told)")
  void p18_ofAllThatAreTold() {
    deed(2, 0, 100, 0, 0);
    deed(2, 2, 101, 0, 30);
    play("today", 99);
    due(0, "guilty", 1);
    play("today", 100);
    due(1, "guilty", 1);
    due(0, "guilty", 2);
    play("today", 101);
    due(1, "guilty", 4);
    due(0, "guilty", 5);
  }

  @Says(promise = 18, words = "GUILTY (bits). -1.")
  void p18_leastAndGreatestGuilt() {
    for (int k = 0; k < 10; k++) {
      deed(5, 0, k, 0, 0);
    }
    due(31, "guilty", -30);
    due(30, "guilty", -29);
    anew();
    for (int k = 0; k < 4; k++) {
      deed(6, 9, k, 4, 0);
    }
    deed(2, 9, 4, 4, 0);
    deed(2, 7, 5, 4, 0);
    due(16, "guilty", 98);
    due(0, "guilty", 99);
    deed(2, 0, 6, 4, 0);
    due(16, "guilty", 99);
    refused(-1, "guilty", 100);
    refused(-1, "guilty", -31);
  }

  // ---- promise 19: price

  @Says(promise = 19, words = "the g by which g times how many buy is most (1 .. 99)")
  void p19_gIs1To99() {
    due(1, "price", 0);
    due(0, "price", 1);
    for (int k = 0; k < 4; k++) {
      deed(6, 9, k, 4, 0);
    }
    deed(2, 9, 4, 4, 0);
    deed(2, 7, 5, 4, 0);
    due(98, "price", 0);
    due(98, "price", 1);
    deed(2, 0, 6, 4, 0);
    due(99, "price", 0);
    due(99, "price", 1);
    deed(2, 0, 7, 4, 0);
    due(99, "price", 0);
    due(99, "price", 1);
  }

  @Says(promise = 19, words = "is most (1 .. 99), of several the least; that")
  void p19_ofSeveralTheLeast() {
    deed(2, 5, 0, 0, 0);
    due(6, "price", 0);
    deed(2, 2, 1, 1, 0);
    due(3, "price", 0);
    due(6, "price", 1);
    deed(2, 0, 2, 0, 0);
    due(7, "price", 0);
    due(7, "price", 1);
    anew();
    for (int p = 0; p < 5; p++) {
      deed(2, 0, p, p, 0);
    }
    due(1, "price", 0);
    due(5, "price", 1);
    deed(1, 0, 5, 0, 0);
    due(4, "price", 1);
  }

  @Says(promise = 19, words = "PRICE (what 0), that (1). -1.")
  void p19_whatIs0Or1() {
    someYear();
    due(2, "price", 0);
    due(2, "price", 1);
    deed(2, 0, 0, 0, 0);
    deed(2, 0, 0, 1, 0);
    range("price", args(0), 0, 0, 1, 1, 3, -1);
  }
}
