/** The almanac for the year just gone; README.md says how it is used. */
public final class AlmanacOfTheYearGone {
  private static final int PEOPLE = 5;
  private static final int EVERYBODY = 31;
  private static final int MOST_DEEDS = 10;
  private static final int LAST_DAY = 364;
  private static final int YEARS_END = 365;
  private static final int KINDS = 8;
  private static final int FIGURES = 10;
  private static final int SHELVES = 8;
  private static final int SORTS = 3;
  private static final int MOST_UNCUT = 9;
  private static final int LEAST_GUILT = -30;
  private static final int DEAREST = 99;
  private static final int MOST_OTHERS = 8;
  private static final int MOST_YEARS = 20;

  private static final int FINE = 0;
  private static final int NO_SUCH = -1;
  private static final int NO_ROOM = -2;
  private static final int NOT_SO = -3;
  private static final int NONE = -4;
  private static final int NOTHING_HELD = -11;
  private static final int OTHER_KIND = -12;
  private static final int NO_PLACE = -13;
  private static final int BELOW_ZERO = -14;
  private static final int NO_FAILURE = -15;
  private static final int BAD_BYTE = -1000;
  private static final int BAD_STATEMENT = -2000;
  /** Where an answer may be below 0 itself, or is a long, a refusal is told as this less it. */
  private static final int REFUSED = 1000000000;

  private final Shelf[] shelves;
  private final Almanac almanac;
  private final Year now;
  /** A text is tried on this year first, so that of one with a fault nothing comes. */
  private final Year trial;
  private final Year held;
  private boolean hasImage;
  private final Deed drawn;

  public AlmanacOfTheYearGone() {
    shelves = new Shelf[SHELVES];
    for (int d = 0; d < shelves.length; d++) {
      shelves[d] = new Shelf();
    }
    almanac = new Almanac();
    now = almanac.year;
    trial = new Year();
    held = new Year();
    hasImage = false;
    drawn = new Deed();
  }

  // ---- the year as told

  public int year(int d) {
    Shelf text = shelfAt(d);
    int refusal = rowRefusal(text);
    if (text == null || refusal != FINE) {
      return refusal;
    }
    if (text.sort != Shelf.BYTES) {
      return OTHER_KIND;
    }
    int bad = Text.firstBadByte(text);
    if (bad >= 0) {
      return BAD_BYTE - bad;
    }
    trial.become(now);
    int wrong = Text.firstWrongStatement(text, trial);
    if (wrong >= 0) {
      return BAD_STATEMENT - wrong;
    }
    now.become(trial);
    return Text.statements(text);
  }

  public int deed(int k, int what) {
    Deed deed = now.deedAt(k);
    if (deed == null) {
      return NO_SUCH;
    }
    switch (what) {
      case 0: return deed.kind;
      case 1: return deed.figure;
      case 2: return deed.day;
      case 3: return deed.who;
      case 4: return deed.seen;
      case 5: return deed.lasting;
      case 6: return deed.lastingOwn;
      case 7: return deed.size();
      default: return NO_SUCH;
    }
  }

  public int guilt(int k) {
    Deed deed = now.deedAt(k);
    return deed == null ? REFUSED - NO_SUCH : deed.burden();
  }

  public int done(int d, int day, int who, int seen) {
    if (!isWithin(day, LAST_DAY) || !isBelow(who, PEOPLE) || !isWithin(seen, EVERYBODY)) {
      return NO_SUCH;
    }
    Shelf shelf = shelfAt(d);
    int refusal = kindRefusal(shelf);
    if (shelf == null || refusal != FINE) {
      return refusal;
    }
    return now.add(shelf.kind, shelf.figure, day, who, seen) ? now.deedCount - 1 : NO_ROOM;
  }

  public int sees(int k, int p) {
    Deed deed = now.deedAt(k);
    if (deed == null || !isBelow(p, PEOPLE)) {
      return NO_SUCH;
    }
    if (deed.who == p) {
      return NOT_SO;
    }
    deed.turnSeen(p);
    return deed.seen >> p & 1;
  }

  public int today(int v) {
    if (!isWithin(v, YEARS_END)) {
      return NO_SUCH;
    }
    int before = now.day;
    now.day = v;
    return before;
  }

  // ---- who remembers

  public int remembers(int p, int k) {
    Deed deed = now.deedAt(k);
    if (deed == null || !isBelow(p, PEOPLE)) {
      return NO_SUCH;
    }
    return deed.isKept(p, now.day) ? 1 : 0;
  }

  public int knows(int p) {
    return isBelow(p, PEOPLE) ? now.memoryOf(p, now.day) : NO_SUCH;
  }

  public int forgotten() {
    return now.keptBySoMany(0);
  }

  public int forgets(int p, int k) {
    Deed deed = now.deedAt(k);
    if (deed == null || !isBelow(p, PEOPLE)) {
      return NO_SUCH;
    }
    if (!deed.isKept(p, now.day)) {
      return NOT_SO;
    }
    int first = deed.day + deed.lastingFor(p) + 1;
    return first <= YEARS_END ? first : NONE;
  }

  public int only() {
    return now.keptBySoMany(1);
  }

  public int witnesses() {
    int all = now.memoryOfGroup(EVERYBODY);
    int fewest = EVERYBODY;
    for (int group = 0; group < EVERYBODY; group++) {
      boolean isSmaller = Integer.bitCount(group) < Integer.bitCount(fewest);
      if (isSmaller && now.memoryOfGroup(group) == all) {
        fewest = group;
      }
    }
    return fewest;
  }

  // ---- pages

  public int place(int k, int what) {
    if (now.deedAt(k) == null || !isBelow(what, 2)) {
      return NO_SUCH;
    }
    almanac.print();
    return what == 0 ? almanac.placeOf(k) : almanac.pageOf(k);
  }

  public int pages() {
    almanac.print();
    return almanac.pageCount;
  }

  public int looksUp(int p, int what) {
    if (!isBelow(p, PEOPLE) || !isBelow(what, 2)) {
      return NO_SUCH;
    }
    almanac.print();
    int page = almanac.pageOf(almanac.greatestBy(p));
    return what == 0 ? page : almanac.newsFor(p, page);
  }

  public int uncut(int n, int what) {
    if (!isWithin(n, MOST_UNCUT) || !isBelow(what, 2)) {
      return NO_SUCH;
    }
    almanac.print();
    int firstUncut = almanac.pageCount - n;
    return what == 0
        ? almanac.deedsFromPage(firstUncut)
        : EVERYBODY & ~almanac.doersAheadOfPage(firstUncut);
  }

  public int guilty(int g) {
    if (g < LEAST_GUILT || g > DEAREST) {
      return NO_SUCH;
    }
    now.weighBurdens();
    return now.burdenedWith(g);
  }

  public int price(int what) {
    if (!isBelow(what, 2)) {
      return NO_SUCH;
    }
    now.weighBurdens();
    int best = 1;
    int most = 0;
    for (int g = 1; g <= DEAREST; g++) {
      int taken = g * Integer.bitCount(now.burdenedWith(g));
      if (taken > most) {
        most = taken;
        best = g;
      }
    }
    return what == 0 ? best : most;
  }

  // ---- diaries, laws

  public int slips(int d, int what) {
    if (!isBelow(what, 2)) {
      return NO_SUCH;
    }
    Shelf diary = shelfAt(d);
    int refusal = diaryRefusal(diary);
    if (diary == null || refusal != FINE) {
      return refusal;
    }
    return what == 0 ? Diary.fewestStruck(diary) : Diary.offTheirDay(diary, now);
  }

  public int trueDay(int d, int k) {
    if (now.deedAt(k) == null) {
      return NO_SUCH;
    }
    Shelf diary = shelfAt(d);
    int refusal = diaryRefusal(diary);
    if (diary == null || refusal != FINE) {
      return refusal;
    }
    return Diary.dayToldMost(diary, k);
  }

  public int mayBe(int k, int what) {
    Deed deed = now.deedAt(k);
    if (deed == null || !isBelow(what, 2)) {
      return NO_SUCH;
    }
    int keepers = deed.keepers(now.day);
    int days = 0;
    int least = NONE;
    for (int day = now.lastDay(); day >= 0; day--) {
      if (deed.keepersAfter(now.day - day) == keepers) {
        days++;
        least = day;
      }
    }
    return what == 0 ? days : least;
  }

  public int law(int d, int v, int what) {
    if (!isBelow(what, 2) || !isBelow(v, what == 0 ? FIGURES : KINDS)) {
      return NO_SUCH;
    }
    Shelf told = shelfAt(d);
    int refusal = rowRefusal(told);
    if (told == null || refusal != FINE) {
      return refusal;
    }
    int bits = 0;
    int choices = what == 0 ? KINDS : FIGURES;
    for (int c = 0; c < choices; c++) {
      int days = what == 0 ? Law.lasting(c, v) : Law.lasting(v, c);
      if (told.tellsAlways(days)) {
        bits |= 1 << c;
      }
    }
    return bits;
  }

  public int leastInIt(int n, int what) {
    if (!isWithin(n, MOST_DEEDS) || !isBelow(what, 2)) {
      return NO_SUCH;
    }
    int undone = 0;
    for (int i = 0; i < n; i++) {
      undone |= now.greatestBut(undone);
    }
    return what == 0 ? undone : now.sizesBut(undone);
  }

  public int robin(int p) {
    if (!isBelow(p, PEOPLE)) {
      return NO_SUCH;
    }
    int best = NONE;
    int most = 0;
    for (int k = 0; k < now.deedCount; k++) {
      Deed deed = now.toldAt(k);
      int lost = deed != null && deed.who == p ? deed.watchersLost(now.day) : 0;
      if (lost > most) {
        most = lost;
        best = k;
      }
    }
    return best;
  }

  public int two(int x, int y) {
    if (!isBelow(x, KINDS * FIGURES) || !isBelow(y, KINDS * FIGURES)) {
      return NO_SUCH;
    }
    int burdenOfOne = Law.burden(x / FIGURES, x % FIGURES);
    int burdenOfOther = Law.burden(y / FIGURES, y % FIGURES);
    for (int pair = 0; pair < 4; pair++) {
      int one = pair / 2;
      int other = pair % 2;
      if (isContent(one, other, burdenOfOne) && isContent(other, one, burdenOfOther)) {
        return 10 * one + other;
      }
    }
    return NONE;
  }

  public long chance(int n, int t, int k, int part) {
    boolean areOdds = t >= 2 && t <= 20;
    if (!isWithin(n, MOST_OTHERS) || !areOdds || !isWithin(k, MOST_OTHERS) || !isBelow(part, 2)) {
      return REFUSED - NO_SUCH;
    }
    return Fraction.inLeastTerms(Fraction.waysOfSoMany(n, t, k), Fraction.power(t, n), part);
  }

  public long mean(int part) {
    if (!isBelow(part, 2)) {
      return REFUSED - NO_SUCH;
    }
    return Fraction.inLeastTerms(now.sizesBut(0), Math.max(1, now.toldCount()), part);
  }

  public int gap(int what) {
    if (!isBelow(what, 2)) {
      return NO_SUCH;
    }
    almanac.print();
    return what == 0 ? almanac.longestGap() : almanac.firstOfLongestGap();
  }

  public int quarrel() {
    int best = NONE;
    int most = 0;
    for (int one = 0; one < PEOPLE; one++) {
      for (int other = one + 1; other < PEOPLE; other++) {
        int matters = now.mattersBetween(one, other);
        if (matters > most) {
          most = matters;
          best = 10 * one + other;
        }
      }
    }
    return best;
  }

  // ---- told pages

  public int forged(int d) {
    Shelf page = shelfAt(d);
    int refusal = rowRefusal(page);
    if (page == null || refusal != FINE) {
      return refusal;
    }
    almanac.print();
    return almanac.firstForged(page);
  }

  public int judge(int d, int p) {
    if (!isBelow(p, PEOPLE)) {
      return NO_SUCH;
    }
    Shelf told = shelfAt(d);
    int refusal = rowRefusal(told);
    if (told == null || refusal != FINE) {
      return refusal;
    }
    for (int i = 0; i < told.length; i++) {
      int day = Math.min(now.day + i, YEARS_END);
      if (!told.isSkipped(i) && told.cell(i) != Integer.bitCount(now.memoryOf(p, day))) {
        return i;
      }
    }
    return NONE;
  }

  public int years(int n, int z, int what) {
    if (n < 1 || n > MOST_YEARS || !isBelow(what, 2)) {
      return NO_SUCH;
    }
    int seed = z;
    int lost = 0;
    int sizes = 0;
    for (int i = 0; i < n * MOST_DEEDS; i++) {
      seed = drawDeed(seed);
      lost += drawn.keepers(YEARS_END) == 0 ? 1 : 0;
      sizes += drawn.size();
    }
    return what == 0 ? lost : sizes;
  }

  // ---- the image, what is told

  public int image() {
    held.become(now);
    hasImage = true;
    return now.deedCount;
  }

  public int restore() {
    if (!hasImage) {
      return NOT_SO;
    }
    now.become(held);
    return now.deedCount;
  }

  public int count(int what) {
    switch (what) {
      case 0: return now.deedCount;
      case 1: return now.day;
      case 2: return now.sizesBut(0);
      case 3: return now.toldCount();
      case 4: return now.allLasting();
      case 5: return now.allSeen();
      default: return NO_SUCH;
    }
  }

  // ---- shelves

  public int keep(int d, int what, int k, int figure) {
    Shelf shelf = shelfAt(d);
    if (shelf == null || !isBelow(what, 2)) {
      return NO_SUCH;
    }
    if (what == 0) {
      shelf.empty();
      return FINE;
    }
    if (!isBelow(k, KINDS) || !isBelow(figure, FIGURES)) {
      return NO_SUCH;
    }
    shelf.hold(k, figure);
    return FINE;
  }

  public int row(int d, int sort, int n) {
    Shelf shelf = shelfAt(d);
    if (shelf == null || !isBelow(sort, SORTS) || n > Shelf.MOST_CELLS) {
      return NO_SUCH;
    }
    if (n < 0) {
      return BELOW_ZERO;
    }
    shelf.lay(sort, n);
    return FINE;
  }

  public int put(int d, int i, int v) {
    Shelf shelf = shelfAt(d);
    int refusal = rowRefusal(shelf);
    if (shelf == null || refusal != FINE) {
      return refusal;
    }
    if (!isBelow(i, shelf.length)) {
      return NO_PLACE;
    }
    shelf.set(i, v);
    return FINE;
  }

  public long element(int d, int i) throws IllegalArgumentException, IllegalStateException {
    Shelf shelf = shelfAt(d);
    if (shelf == null) {
      throw new IllegalArgumentException("no such SHELF");
    }
    if (!shelf.hasRow()) {
      throw new IllegalStateException("no ROW");
    }
    if (!isBelow(i, shelf.length)) {
      throw new IllegalStateException("no such place");
    }
    return shelf.cell(i);
  }

  public int copy(int d, int i, int e, int j, int n) {
    Shelf from = shelfAt(d);
    Shelf to = shelfAt(e);
    if (from == null || to == null) {
      return NO_SUCH;
    }
    if (from.isEmpty() || to.isEmpty()) {
      return NOTHING_HELD;
    }
    if (!from.hasRow() || from.sort != to.sort) {
      return OTHER_KIND;
    }
    if (!from.hasStretch(i, n) || !to.hasStretch(j, n)) {
      return NO_PLACE;
    }
    System.arraycopy(from.cells, i, to.cells, j, n);
    return n;
  }

  public int cost(int d) {
    Shelf shelf = shelfAt(d);
    int refusal = kindRefusal(shelf);
    return shelf == null || refusal != FINE ? refusal : Law.expense(shelf.kind, shelf.figure);
  }

  public int toss(int d) {
    Shelf shelf = shelfAt(d);
    int refusal = kindRefusal(shelf);
    return shelf == null || refusal != FINE ? refusal : caught(shelf.kind, shelf.figure);
  }

  // ---- what is asked for, and its refusals

  private static boolean isBelow(int x, int bound) {
    return x >= 0 && x < bound;
  }

  private static boolean isWithin(int x, int last) {
    return x >= 0 && x <= last;
  }

  /** Null where there is no such SHELF. */
  private Shelf shelfAt(int d) {
    return d >= 0 && d < shelves.length ? shelves[d] : null;
  }

  private static int rowRefusal(Shelf shelf) {
    return refusal(shelf, true);
  }

  private static int kindRefusal(Shelf shelf) {
    return refusal(shelf, false);
  }

  private static int refusal(Shelf shelf, boolean wantsRow) {
    if (shelf == null) {
      return NO_SUCH;
    }
    if (shelf.isEmpty()) {
      return NOTHING_HELD;
    }
    return shelf.hasRow() == wantsRow ? FINE : OTHER_KIND;
  }

  private int diaryRefusal(Shelf diary) {
    int refusal = rowRefusal(diary);
    if (diary == null || refusal != FINE) {
      return refusal;
    }
    return Diary.isWhole(diary, now) ? FINE : NO_PLACE;
  }

  // ---- two, and what each has

  /** What one has of a choice (1 done, 0 not) beside the other's. */
  private static int gain(int choice, int others, int burden) {
    if (choice == 0) {
      return 0;
    }
    return (others == 0 ? 3 : 1) - burden;
  }

  private static boolean isContent(int choice, int others, int burden) {
    return gain(1 - choice, others, burden) <= gain(choice, others, burden);
  }

  // ---- years by seeds

  private static int nextSeed(int seed) {
    return seed * 1103515245 + 12345;
  }

  private static int drawBelow(int bound, int seed) {
    int high = (seed & 0x7fffffff) / 65536;
    return bound < 1 ? 0 : high % bound;
  }

  /** Fills the deed that is kept for it; answers the seed as its five draws leave it. */
  private int drawDeed(int seed) {
    int ofKind = nextSeed(seed);
    int ofFigure = nextSeed(ofKind);
    int ofDay = nextSeed(ofFigure);
    int ofWho = nextSeed(ofDay);
    int ofSeen = nextSeed(ofWho);
    drawn.become(
        drawBelow(KINDS, ofKind),
        drawBelow(FIGURES, ofFigure),
        drawBelow(LAST_DAY + 1, ofDay),
        drawBelow(PEOPLE, ofWho),
        drawBelow(EVERYBODY + 1, ofSeen));
    return ofSeen;
  }

  // ---- failures

  /** Each sort of FAILURE is another exception, for a catch must not look into the exception. */
  private static int caught(int kind, int figure) {
    try {
      Law.fail(kind, figure);
    } catch (UnsupportedOperationException handFailed) {
      return 200 + Law.expense(kind, figure);
    } catch (IllegalStateException goodFailed) {
      return 100 + figure;
    } catch (IllegalArgumentException deedFailed) {
      return figure;
    }
    return NO_FAILURE;
  }

  /** What the KINDS have by themselves; each law names first what those above others have. */
  private static final class Law {
    private static final int GOOD = 1;
    private static final int UNKIND = 2;
    private static final int LOSS = 3;
    private static final int WIND = 4;
    private static final int PROUD = 5;
    private static final int SHAME = 6;
    private static final int HAND = 7;

    private static int lasting(int kind, int figure) {
      int ofDeed = 10 + figure;
      int ofGood = ofDeed / 2;
      int ofUnkind = 4 * ofDeed;
      switch (kind) {
        case GOOD: return ofGood;
        case UNKIND: return ofUnkind;
        case LOSS: return ofDeed + 30;
        case WIND: return figure;
        case PROUD: return ofGood + 20;
        case SHAME: return ofUnkind / 2;
        case HAND: return ofGood + 1;
        default: return ofDeed;
      }
    }

    private static int lastingOwn(int kind, int lasting) {
      switch (kind) {
        case GOOD: case HAND: return 3 * lasting;
        case UNKIND: return lasting / 2;
        case PROUD: return YEARS_END;
        case SHAME: return 0;
        default: return lasting;
      }
    }

    private static int size(int kind, int figure) {
      int ofDeed = 10;
      int ofGood = ofDeed - 4;
      switch (kind) {
        case GOOD: return ofGood;
        case UNKIND: case SHAME: return ofDeed + 2;
        case WIND: return figure;
        case PROUD: return 2 * ofGood;
        case HAND: return ofGood - 1;
        default: return ofDeed;
      }
    }

    private static int burden(int kind, int figure) {
      int ofDeed = 0;
      int ofGood = ofDeed - 1;
      int ofUnkind = figure + 1;
      switch (kind) {
        case GOOD: case HAND: return ofGood;
        case UNKIND: return ofUnkind;
        case PROUD: return ofGood - 2;
        case SHAME: return 2 * ofUnkind;
        default: return ofDeed;
      }
    }

    private static int expense(int kind, int figure) {
      int ofDeed = 3;
      int ofGood = ofDeed + figure;
      int ofUnkind = 7;
      switch (kind) {
        case GOOD: return ofGood;
        case UNKIND: return ofUnkind;
        case LOSS: return ofDeed + 2;
        case WIND: return 1;
        case PROUD: return ofGood + 5;
        case SHAME: return ofUnkind / 2;
        case HAND: return 2 * ofGood;
        default: return ofDeed;
      }
    }

    /** Comes back only from those that have no FAILURE. */
    private static void fail(int kind, int figure) {
      if (figure == 0) {
        return;
      }
      switch (kind) {
        case WIND: case SHAME: return;
        case GOOD: case PROUD: throw new IllegalStateException("a GOOD one fails");
        case HAND: throw new UnsupportedOperationException("a HAND fails");
        default: throw new IllegalArgumentException("a DEED fails");
      }
    }
  }

  /** One deed; a year makes its deeds once and fills them again, so that no call makes more. */
  private static final class Deed {
    private int kind;
    private int figure;
    private int day;
    private int who;
    private int seen;
    private int lasting;
    private int lastingOwn;

    private void become(int newKind, int newFigure, int newDay, int newWho, int newSeen) {
      kind = newKind;
      figure = newFigure;
      day = newDay;
      who = newWho;
      seen = newSeen & ~(1 << newWho);
      lasting = Law.lasting(newKind, newFigure);
      lastingOwn = Law.lastingOwn(newKind, lasting);
    }

    private void turnSeen(int p) {
      seen ^= 1 << p;
    }

    private int size() {
      return Law.size(kind, figure);
    }

    private int burden() {
      return Law.burden(kind, figure);
    }

    private int lastingFor(int p) {
      return p == who ? lastingOwn : lasting;
    }

    private boolean isKnown(int p) {
      return p == who || (seen >> p & 1) != 0;
    }

    private boolean isKept(int p, int onDay) {
      return day <= onDay && isKnown(p) && onDay - day <= lastingFor(p);
    }

    /** How many who saw it do not REMEMBER it on a day. */
    private int watchersLost(int onDay) {
      return Integer.bitCount(seen & ~keepers(onDay));
    }

    /** Two who both know it, of whom just one REMEMBERS it on a day. */
    private boolean isMatterBetween(int one, int other, int onDay) {
      return isKnown(one) && isKnown(other) && isKept(one, onDay) != isKept(other, onDay);
    }

    /** PEOPLE (bits) who REMEMBER it on a day. */
    private int keepers(int onDay) {
      return day <= onDay ? keepersAfter(onDay - day) : 0;
    }

    private int keepersAfter(int daysAgo) {
      int doer = daysAgo <= lastingOwn ? 1 << who : 0;
      return daysAgo <= lasting ? doer | seen : doer;
    }
  }

  /** The deeds of a year, and the day on which it is looked at. */
  private static final class Year {
    private final Deed[] deeds;
    private final int[] burdens;
    private int deedCount;
    private int day;

    private Year() {
      deeds = new Deed[MOST_DEEDS];
      for (int k = 0; k < deeds.length; k++) {
        deeds[k] = new Deed();
      }
      burdens = new int[PEOPLE];
      deedCount = 0;
      day = YEARS_END;
    }

    private void become(Year other) {
      deedCount = 0;
      for (int k = 0; k < other.deedCount; k++) {
        Deed deed = other.deedAt(k);
        if (deed != null) {
          add(deed.kind, deed.figure, deed.day, deed.who, deed.seen);
        }
      }
      day = other.day;
    }

    /** Null where there is no such DEED. */
    private Deed deedAt(int k) {
      return k >= 0 && k < deedCount && k < deeds.length ? deeds[k] : null;
    }

    /** Null where there is no such DEED, and where it is not told yet. */
    private Deed toldAt(int k) {
      Deed deed = deedAt(k);
      return deed != null && deed.day <= day ? deed : null;
    }

    /** False where there is no room. */
    private boolean add(int kind, int figure, int onDay, int who, int seen) {
      if (deedCount >= deeds.length) {
        return false;
      }
      deeds[deedCount].become(kind, figure, onDay, who, seen);
      deedCount++;
      return true;
    }

    private int lastDay() {
      return Math.min(day, LAST_DAY);
    }

    private int toldCount() {
      int told = 0;
      for (int k = 0; k < deedCount; k++) {
        told += toldAt(k) != null ? 1 : 0;
      }
      return told;
    }

    private int memoryOf(int p, int onDay) {
      int bits = 0;
      for (int k = 0; k < deedCount; k++) {
        Deed deed = deedAt(k);
        if (deed != null && deed.isKept(p, onDay)) {
          bits |= 1 << k;
        }
      }
      return bits;
    }

    private int memoryOfGroup(int group) {
      int bits = 0;
      for (int k = 0; k < deedCount; k++) {
        Deed deed = toldAt(k);
        if (deed != null && (deed.keepers(day) & group) != 0) {
          bits |= 1 << k;
        }
      }
      return bits;
    }

    /** DEEDS (bits) told that just so many REMEMBER. */
    private int keptBySoMany(int many) {
      int bits = 0;
      for (int k = 0; k < deedCount; k++) {
        Deed deed = toldAt(k);
        if (deed != null && Integer.bitCount(deed.keepers(day)) == many) {
          bits |= 1 << k;
        }
      }
      return bits;
    }

    private int mattersBetween(int one, int other) {
      int matters = 0;
      for (int k = 0; k < deedCount; k++) {
        Deed deed = toldAt(k);
        matters += deed != null && deed.isMatterBetween(one, other, day) ? 1 : 0;
      }
      return matters;
    }

    private void weighBurdens() {
      for (int p = 0; p < burdens.length; p++) {
        burdens[p] = 0;
      }
      for (int k = 0; k < deedCount; k++) {
        Deed deed = toldAt(k);
        if (deed != null && isBelow(deed.who, burdens.length)) {
          burdens[deed.who] += deed.burden();
        }
      }
    }

    /** PEOPLE (bits) whose GUILT, as it was weighed last, is so much or more. */
    private int burdenedWith(int least) {
      int bits = 0;
      for (int p = 0; p < burdens.length; p++) {
        if (burdens[p] >= least) {
          bits |= 1 << p;
        }
      }
      return bits;
    }

    /** SIZES of all that is told, but for some deeds (bits). */
    private int sizesBut(int left) {
      int sizes = 0;
      for (int k = 0; k < deedCount; k++) {
        Deed deed = toldAt(k);
        if (deed != null && (left >> k & 1) == 0) {
          sizes += deed.size();
        }
      }
      return sizes;
    }

    /** The bit of the deed told with the greatest SIZE, but for some; 0 if these have none. */
    private int greatestBut(int left) {
      int bit = 0;
      int greatest = 0;
      for (int k = 0; k < deedCount; k++) {
        Deed deed = toldAt(k);
        if (deed != null && (left >> k & 1) == 0 && deed.size() > greatest) {
          greatest = deed.size();
          bit = 1 << k;
        }
      }
      return bit;
    }

    private int allLasting() {
      int days = 0;
      for (int k = 0; k < deedCount; k++) {
        Deed deed = deedAt(k);
        days += deed != null ? deed.lasting : 0;
      }
      return days;
    }

    private int allSeen() {
      int all = 0;
      for (int k = 0; k < deedCount; k++) {
        Deed deed = deedAt(k);
        all += deed != null ? Integer.bitCount(deed.seen) : 0;
      }
      return all;
    }
  }

  /** A year in print: where its deeds stand, as they did when it was printed last. */
  private static final class Almanac {
    private static final int PAGE_POINTS = 30;

    private final Year year;
    private final int[] order;
    private final int[] pageAt;
    private int printed;
    private int pageCount;

    private Almanac() {
      year = new Year();
      order = new int[MOST_DEEDS];
      pageAt = new int[MOST_DEEDS];
      printed = 0;
      pageCount = 0;
    }

    private void print() {
      printed = 0;
      for (int k = 0; k < year.deedCount; k++) {
        Deed deed = year.toldAt(k);
        if (deed != null) {
          setIn(k, deed);
        }
      }
      breakPages();
    }

    /** Deeds come by their numbers, so one is set ahead of those alone that it must precede. */
    private void setIn(int k, Deed deed) {
      if (printed >= order.length) {
        return;
      }
      int at = printed;
      while (at > 0 && goesAhead(deed, deedIn(at - 1))) {
        order[at] = order[at - 1];
        at--;
      }
      order[at] = k;
      printed++;
    }

    private static boolean goesAhead(Deed one, Deed other) {
      if (one == null || other == null) {
        return false;
      }
      return one.day < other.day || one.day == other.day && one.size() > other.size();
    }

    private void breakPages() {
      pageCount = 0;
      int points = 0;
      for (int i = 0; i < printed && i < pageAt.length; i++) {
        Deed deed = deedIn(i);
        int size = deed != null ? deed.size() : 0;
        if (i == 0 || points + size > PAGE_POINTS) {
          pageCount++;
          points = 0;
        }
        points += size;
        pageAt[i] = pageCount - 1;
      }
    }

    /** The number of the deed at a place; NONE where there is no such place. */
    private int numberIn(int at) {
      return at >= 0 && at < printed && at < order.length ? order[at] : NONE;
    }

    /** The page of a place; NONE where there is no such place. */
    private int pageIn(int at) {
      return at >= 0 && at < printed && at < pageAt.length ? pageAt[at] : NONE;
    }

    /** Null where there is no such place. */
    private Deed deedIn(int at) {
      return year.deedAt(numberIn(at));
    }

    private int placeOf(int k) {
      for (int i = 0; i < printed; i++) {
        if (numberIn(i) == k) {
          return i;
        }
      }
      return NONE;
    }

    private int pageOf(int k) {
      return pageIn(placeOf(k));
    }

    /** The number of the DEED of one with the greatest SIZE, of several the first told. */
    private int greatestBy(int p) {
      int best = NONE;
      int greatest = -1;
      for (int i = 0; i < printed; i++) {
        Deed deed = deedIn(i);
        if (deed != null && deed.who == p && deed.size() > greatest) {
          greatest = deed.size();
          best = numberIn(i);
        }
      }
      return best;
    }

    /** DEEDS (bits) of a page that one did or saw and does not REMEMBER. */
    private int newsFor(int p, int page) {
      int bits = 0;
      for (int i = 0; i < printed; i++) {
        Deed deed = pageIn(i) == page ? deedIn(i) : null;
        if (deed != null && deed.isKnown(p) && !deed.isKept(p, year.day)) {
          bits |= 1 << numberIn(i);
        }
      }
      return bits;
    }

    private int deedsFromPage(int first) {
      int bits = 0;
      for (int i = 0; i < printed; i++) {
        if (pageIn(i) >= first) {
          bits |= 1 << numberIn(i);
        }
      }
      return bits;
    }

    private int doersAheadOfPage(int first) {
      int bits = 0;
      for (int i = 0; i < printed; i++) {
        Deed deed = pageIn(i) < first ? deedIn(i) : null;
        bits |= deed != null ? 1 << deed.who : 0;
      }
      return bits;
    }

    /** The day of the deed at a place; behind the last of them, the day behind the last day. */
    private int dayAt(int at) {
      Deed deed = deedIn(at);
      return deed != null ? deed.day : year.lastDay() + 1;
    }

    private int longestGap() {
      int longest = 0;
      int free = 0;
      for (int i = 0; i <= printed; i++) {
        longest = Math.max(longest, dayAt(i) - free);
        free = dayAt(i) + 1;
      }
      return longest;
    }

    private int firstOfLongestGap() {
      int longest = longestGap();
      int free = 0;
      for (int i = 0; i <= printed && longest > 0; i++) {
        if (dayAt(i) - free == longest) {
          return free;
        }
        free = dayAt(i) + 1;
      }
      return NONE;
    }

    /** A row may break off early, but has nothing to tell behind the last deed in print. */
    private int firstForged(Shelf told) {
      for (int i = 0; i < told.length; i++) {
        if (i >= printed || told.cell(i) != numberIn(i)) {
          return i;
        }
      }
      return NONE;
    }
  }

  /** Holds nothing, a KIND with a FIGURE, or a ROW, whose cells are made once and laid again. */
  private static final class Shelf {
    private static final int MOST_CELLS = 100;
    private static final int BYTES = 0;
    private static final int SHORTS = 1;
    private static final int LEAST_BYTE = -128;
    private static final int LEAST_SHORT = -32768;
    private static final int LEAST_INT = -2147483648;
    private static final int NO_SORT = -1;
    private static final int NO_KIND = -1;

    private final int[] cells;
    private int length;
    private int sort;
    private int kind;
    private int figure;

    private Shelf() {
      cells = new int[MOST_CELLS];
      length = 0;
      sort = NO_SORT;
      kind = NO_KIND;
      figure = 0;
    }

    private boolean hasRow() {
      return sort != NO_SORT;
    }

    private boolean isEmpty() {
      return sort == NO_SORT && kind == NO_KIND;
    }

    private void empty() {
      length = 0;
      sort = NO_SORT;
      kind = NO_KIND;
      figure = 0;
    }

    private void hold(int newKind, int newFigure) {
      empty();
      kind = newKind;
      figure = newFigure;
    }

    private void lay(int newSort, int newLength) {
      empty();
      sort = newSort;
      length = newLength;
      for (int i = 0; i < cells.length; i++) {
        cells[i] = 0;
      }
    }

    private int cell(int i) {
      return i >= 0 && i < length && i < cells.length ? cells[i] : 0;
    }

    private void set(int i, int v) {
      if (i < 0 || i >= length || i >= cells.length) {
        return;
      }
      if (sort == BYTES) {
        cells[i] = (byte) v;
      } else if (sort == SHORTS) {
        cells[i] = (short) v;
      } else {
        cells[i] = v;
      }
    }

    /** Asked without a sum of the two, which could wrap round. */
    private boolean hasStretch(int from, int many) {
      return from >= 0 && many >= 0 && from <= length && many <= length - from;
    }

    /** The least number of the SORT tells nothing where days or deeds are told. */
    private boolean isSkipped(int i) {
      if (sort == BYTES) {
        return cell(i) == LEAST_BYTE;
      }
      return cell(i) == (sort == SHORTS ? LEAST_SHORT : LEAST_INT);
    }

    private boolean tellsAlways(int v) {
      for (int i = 0; i < length; i++) {
        if (!isSkipped(i) && cell(i) != v) {
          return false;
        }
      }
      return true;
    }

    private int number(int from, int digits) {
      int number = 0;
      for (int i = from; i < from + digits; i++) {
        number = 10 * number + cell(i) - '0';
      }
      return number;
    }
  }

  /** THE TEXT of a year: its statements, as bytes of a row. */
  private static final class Text {
    /** How many digits a statement has behind its letter; 0 of what is no statement's letter. */
    private static int digitsBehind(int letter) {
      switch (letter) {
        case 'd': return 8;
        case 't': return 3;
        case 's': return 2;
        default: return 0;
      }
    }

    /** The place of the first byte with which no text goes on, its end if something lacks; -1. */
    private static int firstBadByte(Shelf text) {
      boolean isInside = false;
      int digitsLeft = 0;
      for (int i = 0; i < text.length; i++) {
        int sign = text.cell(i);
        if (!isInside) {
          digitsLeft = digitsBehind(sign);
          if (digitsLeft == 0) {
            return i;
          }
          isInside = true;
        } else if (digitsLeft > 0) {
          if (sign < '0' || sign > '9') {
            return i;
          }
          digitsLeft--;
        } else {
          if (sign != ';') {
            return i;
          }
          isInside = false;
        }
      }
      return isInside || text.length == 0 ? text.length : -1;
    }

    private static int statements(Shelf text) {
      int statements = 0;
      for (int i = 0; i < text.length; i++) {
        statements += text.cell(i) == ';' ? 1 : 0;
      }
      return statements;
    }

    /** Tells a year all statements up to the first that is not as it must be: its place; -1. */
    private static int firstWrongStatement(Shelf text, Year year) {
      for (int at = 0; at < text.length; at++) {
        boolean isStart = at == 0 || text.cell(at - 1) == ';';
        if (isStart && !isTaken(text, at, year)) {
          return at;
        }
      }
      return -1;
    }

    private static boolean isTaken(Shelf text, int at, Year year) {
      switch (text.cell(at)) {
        case 'd': return isDeedTaken(text, at, year);
        case 't': return isTodayTaken(text.number(at + 1, 3), year);
        default: return isSightTaken(text.number(at + 1, 1), text.number(at + 2, 1), year);
      }
    }

    private static boolean isDeedTaken(Shelf text, int at, Year year) {
      int kind = text.number(at + 1, 1);
      int figure = text.number(at + 2, 1);
      int day = text.number(at + 3, 3);
      int who = text.number(at + 6, 1);
      int seen = text.number(at + 7, 2);
      if (kind >= KINDS || day > LAST_DAY || who >= PEOPLE || seen > EVERYBODY) {
        return false;
      }
      return (seen >> who & 1) == 0 && year.add(kind, figure, day, who, seen);
    }

    private static boolean isTodayTaken(int day, Year year) {
      if (day > YEARS_END) {
        return false;
      }
      year.day = day;
      return true;
    }

    private static boolean isSightTaken(int k, int p, Year year) {
      Deed deed = year.deedAt(k);
      if (deed == null || p >= PEOPLE || deed.who == p) {
        return false;
      }
      deed.turnSeen(p);
      return true;
    }
  }

  /** A row of pairs, a DEED and a DAY each. */
  private static final class Diary {
    private static boolean isWhole(Shelf diary, Year year) {
      if (diary.length % 2 != 0) {
        return false;
      }
      for (int i = 0; i < diary.length; i += 2) {
        if (year.deedAt(diary.cell(i)) == null || !isWithin(diary.cell(i + 1), LAST_DAY)) {
          return false;
        }
      }
      return true;
    }

    private static int timesTold(Shelf diary, int k, int day) {
      int times = 0;
      for (int i = 0; i < diary.length; i += 2) {
        if (diary.cell(i) == k && diary.cell(i + 1) == day) {
          times++;
        }
      }
      return times;
    }

    /** Of several the least; NONE if the deed is not told at all. */
    private static int dayToldMost(Shelf diary, int k) {
      int best = NONE;
      int most = 0;
      for (int i = 0; i < diary.length; i += 2) {
        int day = diary.cell(i + 1);
        int times = diary.cell(i) == k ? timesTold(diary, k, day) : 0;
        if (times > most || times > 0 && times == most && day < best) {
          most = times;
          best = day;
        }
      }
      return best;
    }

    private static int fewestStruck(Shelf diary) {
      int struck = diary.length / 2;
      for (int k = 0; k < MOST_DEEDS; k++) {
        struck -= timesTold(diary, k, dayToldMost(diary, k));
      }
      return struck;
    }

    private static int offTheirDay(Shelf diary, Year year) {
      int off = 0;
      for (int i = 0; i < diary.length; i += 2) {
        Deed deed = year.deedAt(diary.cell(i));
        if (deed != null && deed.day != diary.cell(i + 1)) {
          off++;
        }
      }
      return off;
    }
  }

  /** Odds and means: part 0 of a fraction stands above its line, part 1 below. */
  private static final class Fraction {
    private static long inLeastTerms(long above, long below, int part) {
      long divisor = commonDivisor(above, below);
      long wanted = part == 0 ? above : below;
      return divisor == 0 ? wanted : wanted / divisor;
    }

    /** Euclid's steps on two longs are far fewer than the bound, which only shows their end. */
    private static long commonDivisor(long a, long b) {
      long greater = a;
      long lesser = b;
      for (int step = 0; step < 200 && lesser != 0; step++) {
        long rest = greater % lesser;
        greater = lesser;
        lesser = rest;
      }
      return greater;
    }

    private static long power(int base, int exponent) {
      long product = 1;
      for (int i = 0; i < exponent; i++) {
        product *= base;
      }
      return product;
    }

    private static long waysToChoose(int n, int k) {
      long ways = 1;
      for (int i = 1; i <= k; i++) {
        ways = ways * (n - i + 1) / i;
      }
      return ways;
    }

    /** Of all the ways in which n each throw one of t numbers: in how many k or more throw a 1. */
    private static long waysOfSoMany(int n, int t, int k) {
      long ways = 0;
      for (int many = k; many <= n; many++) {
        ways += waysToChoose(n, many) * power(t - 1, n - many);
      }
      return ways;
    }
  }
}
