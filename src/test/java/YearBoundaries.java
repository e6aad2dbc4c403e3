/** Boundaries of the year as told: promises 1 to 7. */
public final class YearBoundaries extends Boundaries {
  private static final String ONE = "d00000000;";
  private static final String ORDER = "Answers of several REFUSALS are the first one as they are told at the call.";

  // ---- promise 1: a new object

  @Says(promise = 1, words = "No DEEDS.")
  void p01_newOneHasNoDeeds() {
    due(0, "count", 0);
    due(-1, "deed", 0, 0);
    play("keep", 0, 1, 0, 0);
    due(0, "done", 0, 0, 0, 0);
    due(1, "count", 0);
    due(0, "deed", 0, 0);
  }

  @Says(promise = 1, words = "365 at first")
  void p01_todayIs365AtFirst() {
    due(365, "count", 1);
    due(365, "today", 364);
    due(364, "today", 365);
  }

  @Says(promise = 1, words = "each hold nothing (at first)")
  void p01_shelvesHoldNothingAtFirst() {
    for (int d = 0; d < 8; d++) {
      due(-11, "cost", d);
      due(-11, "put", d, 0, 0);
    }
    due(-1, "cost", 8);
    due(-1, "cost", -1);
  }

  // ---- promise 2: year, the text

  @Says(promise = 2, words = "The text in SHELF d: how many STATEMENTS; the FAULT.")
  void p02_howManyStatements() {
    tells(1, "t000;");
    tells(2, "t000;t001;");
    tells(20, "t001;".repeat(20));
    tells(10, ONE.repeat(10));
  }

  @Says(promise = 2, words = "one at least")
  void p02_oneStatementAtLeast() {
    tells(-1000, "");
    tells(1, "t000;");
  }

  @Says(promise = 2, words = "STATEMENTS, each with \";\" behind")
  void p02_semicolonBehindEachStatement() {
    tells(1, "t000;");
    tells(-1004, "t000");
    tells(-1004, "t000:");
    tells(-1004, "t000,");
    tells(-1004, "t000t000;");
    tells(-1005, "t000;;");
    tells(-1009, "d00000000:");
    tells(-1000, ";t000;");
  }

  @Says(promise = 2, words = "\"d\" KIND, FIGURE (a digit each)")
  void p02_kindAndFigureAreADigitEach() {
    digitsOnlyAt(1, ONE, 1, -2000);
    digitsOnlyAt(2, ONE, 1, 1);
  }

  @Says(promise = 2, words = "numbers in THE TEXT have just as many digits as told")
  void p02_justAsManyDigitsAsTold() {
    tells(-1002, "t0;");
    tells(-1003, "t00;");
    tells(1, "t000;");
    tells(-1004, "t0000;");
    tells(-1008, "d0000000;");
    tells(1, ONE);
    tells(-1009, "d000000000;");
    deeds(2);
    tells(-1001, "s;");
    tells(-1002, "s1;");
    tells(1, "s11;");
    tells(-1003, "s111;");
  }

  @Says(promise = 2, words = "DAY (3 digits)")
  void p02_dayHasThreeDigits() {
    digitsOnlyAt(3, ONE, 1, -2000);
    digitsOnlyAt(4, ONE, 1, 1);
    digitsOnlyAt(5, ONE, 1, 1);
    tells(1, "d00364000;");
    tells(-1008, "d0036000;");
    tells(-1009, "d000364000;");
  }

  @Says(promise = 2, words = "WHO (a digit)")
  void p02_whoIsADigit() {
    digitsOnlyAt(6, ONE, 1, -2000);
    tells(-1008, "d0000000;");
    tells(-1009, "d000000000;");
  }

  @Says(promise = 2, words = "SEEN (2 digits)")
  void p02_seenHasTwoDigits() {
    digitsOnlyAt(7, ONE, 1, -2000);
    digitsOnlyAt(8, ONE, 1, -2000);
    tells(1, "d00000002;");
    tells(-1008, "d0000002;");
    tells(-1009, "d000000002;");
  }

  @Says(promise = 2, words = "\"t\" TODAY (3 digits)")
  void p02_todayHasThreeDigits() {
    digitsOnlyAt(1, "t000;", 1, -2000);
    digitsOnlyAt(2, "t000;", 1, 1);
    digitsOnlyAt(3, "t000;", 1, 1);
    tells(-1003, "t36;");
    tells(1, "t365;");
    tells(-1004, "t3650;");
  }

  @Says(promise = 2, words = "\"s\" a DEED, one of PEOPLE (a digit each)")
  void p02_deedAndPersonAreADigitEach() {
    someYear();
    digitsOnlyAt(1, "s04;", 1, -2000);
    digitsOnlyAt(2, "s10;", 1, -2000);
    tells(-1002, "s0;");
    tells(1, "s03;");
    tells(-1003, "s033;");
  }

  /** '/' and ':' stand beside the digits; with 0 and with 9 the text is answered as told. */
  private void digitsOnlyAt(int place, String text, int with0, int with9) {
    String[] changed = new String[4];
    String signs = "/09:";
    for (int i = 0; i < 4; i++) {
      changed[i] = text.substring(0, place) + signs.charAt(i) + text.substring(place + 1);
    }
    tells(-1000 - place, changed[0]);
    tells(with0, changed[1]);
    tells(with9, changed[2]);
    tells(-1000 - place, changed[3]);
  }

  @Says(promise = 2, words = "it was seen by that one, or, told again, not")
  void p02_seenAndToldAgainNot() {
    someYear();
    text(7, "s03;");
    due(1, "year", 7);
    due(14, "deed", 0, 4);
    due(1, "year", 7);
    due(6, "deed", 0, 4);
    text(7, "s01;s04;s04;s04;");
    due(4, "year", 7);
    due(20, "deed", 0, 4);
  }

  // ---- promise 2: the FAULT

  @Says(promise = 2, words = "kind 1 the place of the first byte with which no YEAR can go on")
  void p02_firstByteWithWhichNoYearGoesOn() {
    for (char letter : "ceruDTS;0 /:".toCharArray()) {
      tells(-1000, letter + "000;");
      tells(-1005, "t000;" + letter + "000;");
    }
    tells(-1002, "t0x0x;");
    tells(-1006, "t000;tx00;sx;");
    for (int byteBelow0 : args('t' - 256, 't' - 128, -1, -128)) {
      row(7, 0, byteBelow0, '0', '0', '0', ';');
      would('t' - 256 == byteBelow0 ? 1 : -1000, "year", 7);
    }
    String full = "t001;".repeat(19);
    tells(20, full + "t001;");
    tells(-1099, full + "t001x");
    tells(-1095, full + "x001;");
  }

  @Says(promise = 2, words = "(the end, if something lacks)")
  void p02_theEndIfSomethingLacks() {
    String text = "d00000000;s01;t005;";
    for (int end = 0; end <= text.length(); end++) {
      String begun = text.substring(0, end);
      int statements = begun.split(";").length;
      tells(begun.endsWith(";") ? statements : -1000 - end, begun);
    }
  }

  @Says(promise = 2, words = "-1000 less the place; else kind 2")
  void p02_minus1000LessThePlace() {
    tells(-1000, "x");
    tells(-1001, "tx");
    String full = "t001;".repeat(20);
    tells(-1099, full.substring(0, 99));
    tells(20, full);
    tells(-1100, full.substring(0, 95) + "d0000");
  }

  @Says(promise = 2, words = "else kind 2 the place of the letter of the first STATEMENT that is not as it must be")
  void p02_kind1GoesAheadOfKind2() {
    tells(-2000, "t999;");
    tells(-1005, "t999;x");
    tells(-1008, "t999;t00");
    tells(-1004, "t999");
    tells(-2005, "t365;t366;t000;");
    tells(-2005, "t365;t366;t367;");
    tells(-2000, "t366;t365;");
  }

  @Says(promise = 2, words = "(a number out of range, no such one, WHO as one who saw it, no room): -2000 less the place")
  void p02_minus2000LessThePlace() {
    String text = "t001;".repeat(19);
    tells(20, text + "t365;");
    tells(-2095, text + "t366;");
    tells(-2000, "t366;" + text);
    tells(-2010, ONE + "d80000000;");
  }

  @Says(promise = 2, words = "a number out of range")
  void p02_numberOutOfRange() {
    tells(1, "d70000000;");
    tells(-2000, "d80000000;");
    tells(1, "d09000000;");
    tells(1, "d00364000;");
    tells(-2000, "d00365000;");
    tells(-2000, "d00999000;");
    tells(1, "d00000400;");
    tells(-2000, "d00000500;");
    tells(1, "d00000030;");
    tells(-2000, "d00000032;");
    tells(-2000, "d00000099;");
    tells(1, "t365;");
    tells(-2000, "t366;");
    tells(-2000, "t999;");
    tells(2, ONE + "s04;");
    tells(-2010, ONE + "s05;");
  }

  @Says(promise = 2, words = "no such one, WHO as one who saw it")
  void p02_noSuchOne() {
    tells(-2000, "s01;");
    someYear();
    tells(1, "s01;");
    tells(1, "s21;");
    tells(-2000, "s31;");
    tells(-2000, "s91;");
    anew();
    deeds(10);
    tells(1, "s92;");
  }

  @Says(promise = 2, words = "WHO as one who saw it, no room")
  void p02_whoAsOneWhoSawIt() {
    tells(1, "d00000030;");
    tells(-2000, "d00000031;");
    tells(-2000, "d00000001;");
    tells(1, "d00000415;");
    tells(-2000, "d00000416;");
    tells(1, "d00000227;");
    tells(-2000, "d00000231;");
    tells(-2000, "d00000204;");
    someYear();
    tells(1, "s12;");
    tells(-2000, "s13;");
    tells(1, "s14;");
  }

  @Says(promise = 2, words = "no room): -2000")
  void p02_noRoom() {
    deeds(9);
    tells(1, ONE);
    tells(-2010, ONE + ONE);
    deeds(1);
    tells(-2000, ONE);
    tells(2, "s93;t000;");
    anew();
    tells(10, ONE.repeat(10));
    deeds(1);
    tells(-2090, ONE.repeat(10));
  }

  @Says(promise = 2, words = "Without FAULT all of it comes, with one nothing.")
  void p02_allOfItComesOrNothing() {
    someYear();
    tells(-2023, "t005;s03;d42007109;s34;s50;");
    tells(-2019, "t005;s03;d42007109;s51;");
    tells(-1023, "t005;s03;d42007109;s34;x");
    text(7, "t005;s03;d42007109;s34;");
    due(4, "year", 7);
    due(5, "count", 1);
    due(14, "deed", 0, 4);
    due(4, "count", 0);
    int[] told = {4, 2, 7, 1, 25};
    for (int what = 0; what < 5; what++) {
      due(told[what], "deed", 3, what);
    }
  }

  @Says(promise = 2, words = "STATEMENTS are tried one behind the other, each on what those ahead of it made")
  void p02_statementsAreTriedOneBehindTheOther() {
    tells(2, ONE + "s01;");
    tells(-2000, "s01;" + ONE);
    tells(-2014, ONE + "s01;s11;" + ONE);
    tells(4, ONE + "s01;" + ONE + "s11;");
    text(7, "t000;t364;s00;");
    due(-2010, "year", 7);
    due(365, "count", 1);
  }

  @Says(promise = 2, words = "the first that can't be done so is told (kind 2)")
  void p02_theFirstThatCannotBeDoneIsTold() {
    tells(-2000, "s00;t366;d80000000;");
    tells(-2005, "t000;t366;s00;");
    tells(-2010, "t000;t001;d80000000;t366;");
    tells(-2010, ONE + "s00;s11;");
    tells(3, ONE + "s01;s01;");
  }

  @Says(promise = 2, words = "The ROW of a text, and what is taken from a SHELF, stay there")
  void p02_theRowOfATextStays() {
    text(7, ONE);
    due(1, "year", 7);
    due((int) 'd', "element", 7, 0);
    due((int) ';', "element", 7, 9);
    due(NO_PLACE, "element", 7, 10);
    due(1, "year", 7);
    due(2, "count", 0);
  }

  @Says(promise = 2, words = "-1")
  void p02_minus1NoSuchShelf() {
    someYear();
    text(0, "t000;");
    text(7, "t000;t001;");
    range("year", args(0), 0, 0, 1, 7, 2, -1);
  }

  @Says(promise = 2, words = "-11")
  void p02_minus11NothingHeld() {
    someYear();
    refused(-11, "year", 0);
    play("row", 0, 0, 0);
    refused(-1000, "year", 0);
  }

  @Says(promise = 2, words = "-12 (no ROW of bytes)")
  void p02_minus12NoRowOfBytes() {
    someYear();
    refused(-12, "year", 1);
    int[] text = "t000;".chars().toArray();
    row(2, 0, text);
    row(3, 1, text);
    row(4, 2, text);
    would(1, "year", 2);
    refused(-12, "year", 3);
    refused(-12, "year", 4);
  }

  // ---- promise 3: deed

  @Says(promise = 3, words = "Of a DEED: KIND (what 0), FIGURE (1), DAY (2), WHO (3), SEEN (4, bits), LASTS (5), OWN (6), SIZE (7).")
  void p03_whatIs0To7() {
    someYear();
    int[] told = {2, 1, 200, 3, 17, 44, 22, 12};
    for (int what = 0; what < 8; what++) {
      due(told[what], "deed", 1, what);
    }
    range("deed", args(1, 0), 1, 0, 2, 7, 12, -1);
  }

  @Says(promise = 3, words = "-1")
  void p03_minus1NoSuchDeed() {
    refused(-1, "deed", 0, 0);
    someYear();
    range("deed", args(0, 2), 0, 0, 100, 2, 204, -1);
    anew();
    deeds(10);
    range("deed", args(0, 2), 0, 0, 0, 9, 9, -1);
  }

  // ---- promise 4: guilt

  @Says(promise = 4, words = "Refused as told: -1.")
  void p04_minus1NoSuchDeed() {
    refused(REFUSED, "guilt", 0);
    someYear();
    range("guilt", args(0), 0, 0, 0, 2, -1, REFUSED);
    anew();
    deeds(10);
    range("guilt", args(0), 0, 0, 0, 9, 0, REFUSED);
  }

  @Says(promise = 4, words = "Of guilt() and of longs they are 1000000000 less them (-1 is told as 1000000001).")
  void p04_aRefusalIsNoGuilt() {
    deed(1, 0, 0, 0, 0);
    would(-1, "guilt", 0);
    refused(1000000001, "guilt", 1);
    refused(1000000001, "guilt", -1);
  }

  // ---- promise 5: done

  @Says(promise = 5, words = "DAY (0 .. 364)")
  void p05_dayIs0To364() {
    someYear();
    range("done", args(1, 0, 0, 0), 1, 0, 3, 364, 3, -1);
    due(3, "done", 1, 0, 0, 0);
    due(0, "deed", 3, 2);
    due(4, "done", 1, 364, 0, 0);
    due(364, "deed", 4, 2);
  }

  @Says(promise = 5, words = "PEOPLE 0 .. 4.")
  void p05_whoIsOneOfPeople() {
    someYear();
    range("done", args(1, 0, 0, 0), 2, 0, 3, 4, 3, -1);
    due(3, "done", 1, 0, 4, 0);
    due(4, "deed", 3, 3);
  }

  @Says(promise = 5, words = "by whom it was SEEN (bits 0 .. 31; WHO aside)")
  void p05_seenIs0To31() {
    someYear();
    range("done", args(1, 0, 0, 0), 3, 0, 3, 31, 3, -1);
    due(3, "done", 1, 0, 0, 0);
    due(0, "deed", 3, 4);
    due(4, "done", 1, 0, 0, 30);
    due(30, "deed", 4, 4);
  }

  @Says(promise = 5, words = "SEEN (the bit of WHO aside)")
  void p05_theBitOfWhoAside() {
    play("keep", 1, 1, 0, 0);
    for (int who = 0; who < 5; who++) {
      due(2 * who, "done", 1, 0, who, 31);
      due(31 - (1 << who), "deed", 2 * who, 4);
      due(2 * who + 1, "done", 1, 0, who, 1 << who);
      due(0, "deed", 2 * who + 1, 4);
    }
  }

  @Says(promise = 5, words = "DEEDS 0 .. 9 as they come (10 at most)")
  void p05_itsNumber() {
    play("keep", 1, 1, 0, 0);
    for (int k = 0; k < 10; k++) {
      due(k, "done", 1, 364 - k, 0, 0);
    }
    refused(-2, "done", 1, 0, 0, 0);
    due(10, "count", 0);
    due(355, "deed", 9, 2);
    due(-1, "deed", 10, 2);
  }

  @Says(promise = 5, words = "The one on SHELF d is done on a DAY by WHO")
  void p05_theOneStaysOnItsShelf() {
    play("keep", 1, 1, 1, 2);
    due(0, "done", 1, 5, 3, 0);
    due(5, "cost", 1);
    due(102, "toss", 1);
    due(1, "done", 1, 5, 3, 0);
    due(1, "deed", 1, 0);
    due(2, "deed", 1, 1);
  }

  @Says(promise = 5, words = "-1")
  void p05_minus1NoSuchShelf() {
    someYear();
    play("keep", 0, 1, 0, 0);
    play("keep", 7, 1, 7, 9);
    range("done", args(0, 0, 0, 0), 0, 0, 3, 7, 3, -1);
  }

  @Says(promise = 5, words = "-11")
  void p05_minus11NothingHeld() {
    someYear();
    would(3, "done", 1, 0, 0, 0);
    refused(-11, "done", 0, 0, 0, 0);
    refused(-11, "done", 5, 364, 4, 31);
  }

  @Says(promise = 5, words = "-12 (a ROW)")
  void p05_minus12ARow() {
    someYear();
    for (int d = 2; d < 5; d++) {
      refused(-12, "done", d, 0, 0, 0);
    }
    play("row", 2, 0, 0);
    refused(-12, "done", 2, 0, 0, 0);
    would(3, "done", 1, 0, 0, 0);
  }

  @Says(promise = 5, words = "-2")
  void p05_minus2NoRoom() {
    deeds(9);
    shelves();
    would(9, "done", 1, 0, 0, 0);
    play("done", 1, 0, 0, 0);
    refused(-2, "done", 1, 0, 0, 0);
  }

  @Says(promise = 5, words = ORDER)
  void p05_orderOfRefusals() {
    deeds(10);
    shelves();
    refused(-1, "done", 0, 365, 0, 0);
    refused(-1, "done", 2, 0, 5, 0);
    refused(-1, "done", 2, 0, 0, 32);
    refused(-1, "done", 8, 0, 0, 0);
    refused(-1, "done", 1, -1, 0, 0);
    refused(-11, "done", 0, 0, 0, 0);
    refused(-12, "done", 2, 0, 0, 0);
    refused(-2, "done", 1, 0, 0, 0);
  }

  // ---- promise 6: sees

  @Says(promise = 6, words = "It was seen by one, or not any more: 1, 0.")
  void p06_seenOrNotAnyMore() {
    someYear();
    due(0, "sees", 0, 1);
    due(4, "deed", 0, 4);
    due(1, "sees", 0, 1);
    due(6, "deed", 0, 4);
    due(1, "sees", 0, 4);
    due(22, "deed", 0, 4);
    due(0, "sees", 0, 4);
    due(6, "deed", 0, 4);
  }

  @Says(promise = 6, words = "-1")
  void p06_minus1NoSuchOne() {
    someYear();
    range("sees", args(0, 4), 0, 0, 1, 2, 1, -1);
    range("sees", args(1, 0), 1, 0, 0, 4, 0, -1);
    anew();
    refused(-1, "sees", 0, 0);
    deeds(10);
    range("sees", args(0, 1), 0, 0, 0, 9, 0, -1);
  }

  @Says(promise = 6, words = "-3 that one did it")
  void p06_minus3ThatOneDidIt() {
    someYear();
    refused(-3, "sees", 0, 0);
    would(0, "sees", 0, 1);
    would(1, "sees", 1, 2);
    refused(-3, "sees", 1, 3);
    would(0, "sees", 1, 4);
    refused(-3, "sees", 2, 2);
  }

  // ---- promise 7: today

  @Says(promise = 7, words = "TODAY (0 .. 365; 365 at first)")
  void p07_todayIs0To365() {
    someYear();
    range("today", args(0), 0, 0, 210, 365, 210, -1);
    due(210, "today", 0);
    due(0, "count", 1);
    due(0, "today", 365);
    due(365, "count", 1);
  }

  @Says(promise = 7, words = "TODAY becomes v: what it was. -1.")
  void p07_whatItWas() {
    due(365, "today", 7);
    refused(-1, "today", 366);
    refused(-1, "today", -1);
    due(7, "today", 7);
    due(7, "today", 0);
  }
}
