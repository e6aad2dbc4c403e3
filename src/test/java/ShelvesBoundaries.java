/** Boundaries of shelves: promises 37 to 43. */
public final class ShelvesBoundaries extends Boundaries {
  private static final String ORDER = "Answers of several REFUSALS are the first one as they are told at the call.";

  // ---- promise 37: keep

  @Says(promise = 37, words = "SHELVES 0 .. 7 each hold nothing (at first), a KIND of DEED, a ROW.")
  void p37_shelvesAre0To7() {
    someYear();
    range("keep", args(0, 1, 0, 0), 0, 0, 0, 7, 0, -1);
    range("keep", args(0, 0, 0, 0), 0, 0, 0, 7, 0, -1);
    due(0, "keep", 7, 1, 2, 0);
    due(7, "cost", 7);
    due(-11, "cost", 0);
  }

  @Says(promise = 37, words = "what = 0 nothing (the others do not matter)")
  void p37_nothingAndTheOthersDoNotMatter() {
    someYear();
    for (int[] others : new int[][] {{0, 0}, {-1, -1}, {8, 10}, {MIN, MAX}}) {
      for (int d = 0; d < 8; d++) {
        due(0, "keep", d, 0, others[0], others[1]);
        due(-11, "cost", d);
        due(NO_PLACE, "element", d, 0);
      }
      refused(-1, "keep", 8, 0, others[0], others[1]);
    }
  }

  @Says(promise = 37, words = "1 a KIND of DEED of KIND k with a FIGURE: 0.")
  void p37_aKindOfDeed() {
    int[] costs = {3, 12, 7, 5, 1, 17, 3, 24};
    for (int kind = 0; kind < 8; kind++) {
      due(0, "keep", 0, 1, kind, 9);
      due(costs[kind], "cost", 0);
      due(kind, "done", 0, 0, 0, 0);
      due(kind, "deed", kind, 0);
      due(9, "deed", kind, 1);
    }
    due(0, "row", 0, 0, 1);
    due(0, "keep", 0, 1, 0, 0);
    due(-12, "put", 0, 0, 0);
  }

  @Says(promise = 37, words = "-1")
  void p37_minus1NoSuchWhatOrKind() {
    someYear();
    for (int d = 0; d < 5; d++) {
      range("keep", args(d, 0, 0, 0), 1, 0, 0, 1, 0, -1);
      range("keep", args(d, 1, 0, 0), 2, 0, 0, 7, 0, -1);
    }
  }

  @Says(promise = 37, words = "each with a FIGURE (0 .. 9)")
  void p37_figureIs0To9() {
    someYear();
    for (int d = 0; d < 5; d++) {
      range("keep", args(d, 1, 7, 0), 3, 0, 0, 9, 0, -1);
    }
    due(0, "keep", 0, 1, 7, 9);
    due(224, "toss", 0);
  }

  // ---- promise 38: row

  @Says(promise = 38, words = "A ROW has a SORT (0 bytes, 1 shorts, 2 ints)")
  void p38_sortIs0To2() {
    someYear();
    for (int d = 0; d < 5; d++) {
      range("row", args(d, 0, 1), 1, 0, 0, 2, 0, -1);
    }
    int[] kept = {-96, -31072, 100000};
    for (int sort = 0; sort < 3; sort++) {
      due(0, "row", 0, sort, 1);
      play("put", 0, 0, 100000);
      due(kept[sort], "element", 0, 0);
    }
  }

  @Says(promise = 38, words = "0 .. 100 elements, 0 at first")
  void p38_lengthIs0To100And0AtFirst() {
    for (int sort = 0; sort < 3; sort++) {
      due(0, "row", 0, sort, 0);
      due(NO_PLACE, "element", 0, 0);
      due(0, "row", 0, sort, 1);
      due(0, "element", 0, 0);
      due(NO_PLACE, "element", 0, 1);
      due(0, "row", 0, sort, 100);
      for (int i = 0; i < 100; i++) {
        due(0, "element", 0, i);
      }
      due(NO_PLACE, "element", 0, 100);
      play("put", 0, 0, 5);
      play("put", 0, 99, 5);
    }
  }

  @Says(promise = 38, words = "-1 (n above 100)")
  void p38_minus1NAbove100() {
    someYear();
    for (int d = 0; d < 5; d++) {
      would(0, "row", d, 0, 100);
      refused(-1, "row", d, 0, 101);
      refused(-1, "row", d, 2, MAX);
    }
  }

  @Says(promise = 38, words = "-14")
  void p38_minus14BelowZero() {
    someYear();
    for (int d = 0; d < 5; d++) {
      would(0, "row", d, 0, 0);
      refused(-14, "row", d, 0, -1);
      refused(-14, "row", d, 2, MIN);
    }
  }

  @Says(promise = 38, words = "SHELF d gets a ROW of a SORT: 0.")
  void p38_shelvesAre0To7() {
    someYear();
    range("row", args(0, 0, 1), 0, 0, 0, 7, 0, -1);
    due(0, "row", 7, 0, 1);
    due(0, "element", 7, 0);
    due(0, "row", 1, 0, 1);
    due(-12, "cost", 1);
  }

  @Says(promise = 38, words = ORDER)
  void p38_orderOfRefusals() {
    someYear();
    refused(-1, "row", 8, 0, -1);
    refused(-1, "row", -1, 0, -1);
    refused(-1, "row", 0, 3, -1);
    refused(-1, "row", 0, -1, -1);
    refused(-14, "row", 0, 2, -1);
  }

  // ---- promise 39: put

  @Says(promise = 39, words = "what is put in keeps its lowest bits")
  void p39_keepsItsLowestBits() {
    int[][] all = {
      {0, 127, 127}, {0, 128, -128}, {0, -128, -128}, {0, -129, 127}, {0, 255, -1}, {0, 256, 0}, {0, MAX, -1}, {0, MIN, 0},
      {1, 32767, 32767}, {1, 32768, -32768}, {1, -32768, -32768}, {1, -32769, 32767}, {1, 65535, -1}, {1, 65536, 0},
      {2, MAX, MAX}, {2, MIN, MIN}, {2, -1, -1}
    };
    for (int[] one : all) {
      due(0, "row", 0, one[0], 1);
      due(0, "put", 0, 0, one[1]);
      due(one[2], "element", 0, 0);
    }
  }

  @Says(promise = 39, words = "-1")
  void p39_minus1NoSuchShelf() {
    someYear();
    row(0, 0, 1);
    row(7, 0, 1);
    range("put", args(0, 0, 5), 0, 0, 0, 7, 0, -1);
  }

  @Says(promise = 39, words = "-11")
  void p39_minus11NothingHeld() {
    someYear();
    refused(-11, "put", 0, 0, 5);
    refused(-11, "put", 0, -1, 5);
    would(0, "put", 2, 0, 5);
  }

  @Says(promise = 39, words = "-12")
  void p39_minus12NoRow() {
    someYear();
    refused(-12, "put", 1, 0, 5);
    refused(-12, "put", 1, 100, 5);
    would(0, "put", 3, 0, 5);
  }

  @Says(promise = 39, words = "-13")
  void p39_minus13NoSuchPlace() {
    someYear();
    for (int d = 2; d < 5; d++) {
      range("put", args(d, 0, 5), 1, 0, 0, 1, 0, -13);
    }
    play("row", 2, 0, 0);
    refused(-13, "put", 2, 0, 5);
    anew();
    play("row", 2, 0, 100);
    would(0, "put", 2, 99, 5);
    refused(-13, "put", 2, 100, 5);
    refused(-13, "put", 2, -1, 5);
  }

  // ---- promise 40: element

  @Says(promise = 40, words = "IllegalArgumentException: no such SHELF")
  void p40_noSuchShelf() {
    someYear();
    row(0, 0, 1);
    row(7, 0, 2);
    range("element", args(0, 0), 0, 0, 1, 7, 2, NO_SHELF);
    refused(NO_SHELF, "element", 8, 100);
  }

  @Says(promise = 40, words = "IllegalStateException: no ROW, no such place.")
  void p40_noRowOrNoSuchPlace() {
    someYear();
    refused(NO_PLACE, "element", 0, 0);
    refused(NO_PLACE, "element", 1, 0);
    range("element", args(2, 0), 1, 0, 0, 1, 100, NO_PLACE);
    range("element", args(3, 0), 1, 0, 1, 1, 200, NO_PLACE);
    range("element", args(4, 0), 1, 0, 2, 1, 204, NO_PLACE);
    play("row", 2, 0, 0);
    refused(NO_PLACE, "element", 2, 0);
    refused(NO_PLACE, "element", 2, -1);
    anew();
    play("row", 2, 0, 100);
    would(0, "element", 2, 99);
    would(NO_PLACE, "element", 2, 100);
  }

  // ---- promise 41: copy

  @Says(promise = 41, words = "n elements of the ROW in SHELF d from i on come to that in SHELF e from j on: n.")
  void p41_nElements() {
    row(0, 1, 1, 2, 3, 4);
    row(1, 1, 5, 6, 7);
    would(0, "copy", 0, 0, 1, 0, 0);
    due(1, "copy", 0, 3, 1, 2, 1);
    cells(1, 5, 6, 4);
    due(3, "copy", 0, 0, 1, 0, 3);
    cells(1, 1, 2, 3);
    cells(0, 1, 2, 3, 4);
    due(3, "copy", 0, 0, 0, 1, 3);
    cells(0, 1, 1, 2, 3);
    due(3, "copy", 0, 1, 0, 0, 3);
    cells(0, 1, 2, 3, 3);
    due(4, "copy", 0, 0, 0, 0, 4);
    cells(0, 1, 2, 3, 3);
    anew();
    play("row", 0, 2, 100);
    play("row", 1, 2, 100);
    play("put", 0, 0, 5);
    play("put", 0, 99, 6);
    due(100, "copy", 0, 0, 1, 0, 100);
    due(5, "element", 1, 0);
    due(6, "element", 1, 99);
  }

  private void cells(int d, int... cells) {
    for (int i = 0; i < cells.length; i++) {
      due(cells[i], "element", d, i);
    }
    due(NO_PLACE, "element", d, cells.length);
  }

  @Says(promise = 41, words = "-1")
  void p41_minus1NoSuchShelf() {
    someYear();
    row(0, 0, 1);
    row(7, 0, 2);
    range("copy", args(0, 0, 2, 0, 1), 0, 0, 1, 7, 1, -1);
    range("copy", args(2, 0, 0, 0, 1), 2, 0, 1, 7, 1, -1);
  }

  @Says(promise = 41, words = "-11 (either)")
  void p41_minus11Either() {
    someYear();
    refused(-11, "copy", 0, 0, 2, 0, 1);
    refused(-11, "copy", 2, 0, 0, 0, 1);
    refused(-11, "copy", 0, 0, 0, 0, 0);
    would(1, "copy", 2, 0, 2, 0, 1);
  }

  @Says(promise = 41, words = "-12 (no ROWS of one SORT)")
  void p41_minus12NoRowsOfOneSort() {
    someYear();
    refused(-12, "copy", 1, 0, 2, 0, 1);
    refused(-12, "copy", 2, 0, 1, 0, 1);
    refused(-12, "copy", 1, 0, 1, 0, 0);
    for (int d = 2; d < 5; d++) {
      for (int e = 2; e < 5; e++) {
        if (d == e) {
          would(1, "copy", d, 0, e, 1, 1);
        } else {
          refused(-12, "copy", d, 0, e, 0, 1);
          refused(-12, "copy", d, 0, e, 0, 0);
        }
      }
    }
  }

  @Says(promise = 41, words = "-13 (n below 0, too)")
  void p41_minus13NBelow0() {
    someYear();
    row(0, 0, 1, 2);
    would(0, "copy", 0, 0, 2, 0, 0);
    refused(-13, "copy", 0, 0, 2, 0, -1);
    refused(-13, "copy", 0, 1, 2, 1, -1);
    refused(-13, "copy", 0, 2, 2, 2, -2);
    refused(-13, "copy", 0, 0, 2, 0, MIN);
  }

  @Says(promise = 41, words = "-13")
  void p41_minus13NoSuchPlaces() {
    row(0, 0, 1, 2, 3);
    row(1, 0, 4, 5);
    would(2, "copy", 0, 1, 1, 0, 2);
    refused(-13, "copy", 0, 2, 1, 0, 2);
    refused(-13, "copy", 0, -1, 1, 0, 2);
    would(2, "copy", 0, 0, 1, 0, 2);
    refused(-13, "copy", 0, 0, 1, 1, 2);
    refused(-13, "copy", 0, 0, 1, -1, 2);
    refused(-13, "copy", 0, 0, 1, 0, 3);
    refused(-13, "copy", 1, 0, 0, 0, 3);
    would(0, "copy", 0, 3, 1, 2, 0);
    refused(-13, "copy", 0, 4, 1, 0, 0);
    refused(-13, "copy", 0, 0, 1, 3, 0);
    refused(-13, "copy", 0, -1, 1, 0, 0);
    refused(-13, "copy", 0, 0, 1, -1, 0);
    for (int[] one : new int[][] {{MAX, 0, 1}, {0, MAX, 1}, {0, 0, MAX}, {1, 0, MAX}, {0, 1, MAX}, {MAX, MAX, MAX}, {MIN, 0, 1}, {0, MIN, 1}}) {
      refused(-13, "copy", 0, one[0], 1, one[1], one[2]);
    }
  }

  @Says(promise = 41, words = ORDER)
  void p41_orderOfRefusals() {
    someYear();
    refused(-1, "copy", 0, 0, 8, 0, -1);
    refused(-1, "copy", 8, 0, 0, 0, -1);
    refused(-1, "copy", 1, 0, -1, 9, 1);
    refused(-11, "copy", 0, 0, 1, 0, -1);
    refused(-11, "copy", 1, 9, 0, 0, 1);
    refused(-12, "copy", 1, 0, 2, 0, -1);
    refused(-12, "copy", 2, 9, 3, 0, 1);
    refused(-13, "copy", 2, 9, 2, 0, 1);
  }

  // ---- promise 42: cost

  @Says(promise = 42, words = "DEED 3; GOOD FIGURE more; UNKIND 7; LOSS 2 more; WIND 1; PROUD a GOOD's and 5; SHAME half of an UNKIND's, cut; HAND twice a GOOD's.")
  void p42_withFigure0AndWith9() {
    int[] with0 = {3, 3, 7, 5, 1, 8, 3, 6};
    int[] with9 = {3, 12, 7, 5, 1, 17, 3, 24};
    for (int kind = 0; kind < 8; kind++) {
      play("keep", 0, 1, kind, 0);
      due(with0[kind], "cost", 0);
      play("keep", 0, 1, kind, 9);
      due(with9[kind], "cost", 0);
    }
  }

  @Says(promise = 42, words = "-1")
  void p42_minus1NoSuchShelf() {
    someYear();
    play("keep", 0, 1, 0, 0);
    play("keep", 7, 1, 7, 9);
    range("cost", args(0), 0, 0, 3, 7, 24, -1);
  }

  @Says(promise = 42, words = "-11")
  void p42_minus11NothingHeld() {
    someYear();
    refused(-11, "cost", 0);
    would(5, "cost", 1);
  }

  @Says(promise = 42, words = "-12 (a ROW)")
  void p42_minus12ARow() {
    someYear();
    for (int d = 2; d < 5; d++) {
      refused(-12, "cost", d);
    }
    play("row", 2, 0, 0);
    refused(-12, "cost", 2);
  }

  // ---- promise 43: toss

  @Says(promise = 43, words = "-15: WINDS, SHAMES, and any with FIGURE 0, have none.")
  void p43_minus15HaveNone() {
    int[] with1 = {1, 101, 1, 1, -15, 101, -15, 208};
    int[] with9 = {9, 109, 9, 9, -15, 109, -15, 224};
    for (int kind = 0; kind < 8; kind++) {
      play("keep", 0, 1, kind, 0);
      refused(-15, "toss", 0);
      play("keep", 0, 1, kind, 1);
      due(with1[kind], "toss", 0);
      play("keep", 0, 1, kind, 9);
      due(with9[kind], "toss", 0);
    }
  }

  @Says(promise = 43, words = "of GOOD ones 100 more (PROUD, HANDS, too); of HANDS 200 plus their COST, in place of all that (FIGURE, too)")
  void p43_ofHands200PlusTheirCost() {
    int[][] all = {{1, 1, 101}, {5, 1, 101}, {7, 1, 208}, {1, 9, 109}, {5, 9, 109}, {7, 9, 224}};
    for (int[] one : all) {
      play("keep", 0, 1, one[0], one[1]);
      due(one[2], "toss", 0);
      due(one[2], "toss", 0);
    }
  }

  @Says(promise = 43, words = "-1")
  void p43_minus1NoSuchShelf() {
    someYear();
    play("keep", 0, 1, 0, 1);
    play("keep", 7, 1, 7, 9);
    range("toss", args(0), 0, 0, 1, 7, 224, -1);
  }

  @Says(promise = 43, words = "-11")
  void p43_minus11NothingHeld() {
    someYear();
    refused(-11, "toss", 0);
    would(102, "toss", 1);
  }

  @Says(promise = 43, words = "-12 (a ROW)")
  void p43_minus12ARow() {
    someYear();
    for (int d = 2; d < 5; d++) {
      refused(-12, "toss", d);
    }
  }
}
