/** Boundaries of the image and of what is told: promises 34 to 36. */
public final class ImageBoundaries extends Boundaries {
  // ---- promise 34: image

  @Says(promise = 34, words = "THE IMAGE is taken: how many DEEDS.")
  void p34_from0To10Deeds() {
    due(0, "image");
    deeds(1);
    due(1, "image");
    deeds(8);
    due(9, "image");
    deeds(1);
    due(10, "image");
    play("today", 0);
    due(10, "image");
  }

  @Says(promise = 34, words = "THE IMAGE: all that there is, but SHELVES (and THE IMAGE)")
  void p34_theLastOneStays() {
    deeds(2);
    due(2, "image");
    deeds(1);
    due(3, "image");
    due(3, "restore");
    deeds(7);
    due(3, "restore");
    due(3, "count", 0);
    due(3, "image");
  }

  // ---- promise 35: restore

  @Says(promise = 35, words = "-3 there is none")
  void p35_minus3ThereIsNone() {
    refused(-3, "restore");
    deeds(2);
    play("today", 5);
    refused(-3, "restore");
    play("image");
    would(2, "restore");
    anew();
    play("image");
    would(0, "restore");
  }

  @Says(promise = 35, words = "RESTORED all is as it was then")
  void p35_allIsAsItWasThen() {
    deed(2, 7, 364, 4, 15);
    deed(5, 0, 0, 0, 0);
    play("today", 364);
    play("image");
    play("today", 0);
    play("sees", 0, 0);
    play("sees", 1, 4);
    deeds(8);
    due(2, "restore");
    due(2, "count", 0);
    due(364, "count", 1);
    due(-1, "deed", 2, 0);
    int[][] told = {{2, 7, 364, 4, 15, 68, 34, 12}, {5, 0, 0, 0, 0, 25, 365, 12}};
    for (int k = 0; k < 2; k++) {
      for (int what = 0; what < 8; what++) {
        due(told[k][what], "deed", k, what);
      }
    }
    deeds(1);
    due(3, "count", 0);
    due(0, "deed", 2, 0);
  }

  /** Nine more came since, of a KIND and on days that would show in these answers. */
  @Says(promise = 35, words = "RESTORED all is as it was then")
  void p35_deedsThatCameSinceAreGone() {
    deed(0, 0, 100, 2, 8);
    play("today", 100);
    play("image");
    play("today", 365);
    for (int k = 0; k < 9; k++) {
      deed(2, 9, 100 - k, 0, 2);
    }
    row(5, 0, 0, 1);
    due(1, "restore");
    String[] calls = {"forgotten", "only", "witnesses", "pages", "quarrel"};
    int[] answers = {0, 0, 4, 1, -4};
    for (int i = 0; i < calls.length; i++) {
      due(answers[i], calls[i]);
    }
    int[][] ofOne = {{0, -4, -4, 0}, {1, -4, -4, 0}, {2, 0, -4, 1}, {3, -4, -4, 1}};
    for (int[] one : ofOne) {
      due(one[1], "looksUp", one[0], 0);
      due(one[2], "robin", one[0]);
      due(one[3], "knows", one[0]);
    }
    int[] counts = {1, 100, 10, 1, 10, 1};
    for (int what = 0; what < 6; what++) {
      due(counts[what], "count", what);
    }
    due(1, "uncut", 9, 0);
    due(27, "uncut", 0, 1);
    due(0, "guilty", 1);
    due(0, "price", 1);
    due(1, "leastInIt", 10, 0);
    due(10, "leastInIt", 0, 1);
    due(10, "mean", 0);
    due(100, "gap", 0);
    due(1, "forged", 5);
    due(-1, "deed", 1, 0);
    due(REFUSED, "guilt", 1);
    due(-1, "remembers", 0, 1);
    due(-1, "forgets", 0, 1);
    due(-1, "sees", 1, 1);
    due(-1, "place", 1, 0);
    due(-1, "mayBe", 1, 0);
    due(-1, "trueDay", 5, 1);
    due(1, "done", 6, 5, 0, 0);
  }

  @Says(promise = 35, words = "THE IMAGE is RESTORED: how many DEEDS.")
  void p35_from0To10Deeds() {
    play("image");
    deeds(10);
    due(0, "restore");
    due(0, "count", 0);
    due(365, "count", 1);
    deeds(10);
    play("image");
    due(10, "restore");
    due(10, "count", 0);
    due(9, "deed", 9, 2);
    play("done", 6, 0, 0, 0);
    due(10, "count", 0);
  }

  @Says(promise = 35, words = "all that there is, but SHELVES (and THE IMAGE)")
  void p35_theImageStays() {
    deed(0, 0, 5, 0, 2);
    play("image");
    for (int i = 0; i < 2; i++) {
      play("sees", 0, 1);
      play("sees", 0, 4);
      play("today", 3);
      deeds(1);
      due(1, "restore");
      due(2, "deed", 0, 4);
      due(365, "count", 1);
    }
    due(1, "restore");
  }

  @Says(promise = 35, words = "when THE IMAGE is RESTORED, SHELVES stay as they are")
  void p35_shelvesStayAsTheyAre() {
    shelves();
    play("image");
    play("put", 2, 1, 99);
    play("keep", 1, 1, 7, 9);
    play("keep", 3, 0, 0, 0);
    row(0, 2, MAX);
    due(0, "restore");
    due(99, "element", 2, 1);
    due(24, "cost", 1);
    due(-11, "cost", 3);
    due(MAX, "element", 0, 0);
  }

  // ---- promise 36: count

  @Says(promise = 36, words = "0 DEEDS, 1 TODAY, 2 all SIZES told, 3 how many are told, 4 all LASTS, 5 all that was SEEN (each counted)")
  void p36_fromNothingToTenDeeds() {
    int[] none = {0, 365, 0, 0, 0, 0};
    for (int what = 0; what < 6; what++) {
      due(none[what], "count", what);
    }
    play("keep", 1, 1, 2, 9);
    for (int k = 0; k < 10; k++) {
      play("done", 1, 364, k % 5, 31);
    }
    int[] all = {10, 365, 120, 10, 760, 40};
    for (int what = 0; what < 6; what++) {
      due(all[what], "count", what);
    }
  }

  @Says(promise = 36, words = "2 all SIZES told, 3 how many are told")
  void p36_whatIsTold() {
    deed(0, 0, 100, 0, 2);
    deed(1, 0, 101, 0, 2);
    int[][] told = {{99, 0, 0}, {100, 10, 1}, {101, 16, 2}, {102, 16, 2}};
    for (int[] one : told) {
      play("today", one[0]);
      due(one[1], "count", 2);
      due(one[2], "count", 3);
      due(2, "count", 0);
      due(15, "count", 4);
      due(2, "count", 5);
    }
  }

  @Says(promise = 36, words = "5 all that was SEEN (each counted)")
  void p36_eachCounted() {
    deed(0, 0, 100, 0, 30);
    due(4, "count", 5);
    deed(0, 0, 100, 4, 31);
    due(8, "count", 5);
    play("sees", 0, 4);
    due(7, "count", 5);
    play("sees", 0, 4);
    due(8, "count", 5);
  }

  @Says(promise = 36, words = "-1 for others")
  void p36_minus1ForOthers() {
    someYear();
    range("count", args(0), 0, 0, 3, 5, 5, -1);
  }
}
