import java.util.Arrays;

/** Counts that are broken off: the numbered promises of the document, in one object. */
public final class WhatDidYouSay {
  public static final int NONE = -1;

  // REFUSALS; where NONE is an answer too, the call answers SHIFT less.
  private static final int NOBODY = -1;
  private static final int OTHER = -2;
  private static final int NOTHING = -3;
  private static final int BELOW = -4;
  private static final int BEYOND = -5;
  private static final int WRONG = -6;
  private static final int FULL = -7;
  private static final int SHIFT = 10;

  // KINDS, and for each of them the KIND above.
  private static final int COUNTER = 0;
  private static final int MARKER = 1;
  private static final int SLIPPER = 2;
  private static final int HEAPER = 3;
  private static final int STUBBORN = 4;
  private static final int LOUD = 5;
  private static final int DEAF = 6;
  private static final int[] ABOVE = {-1, 0, 0, 2, 0, 1, 4};

  // What ask() and the words of a ROOM set, and the bounds of each.
  private static final int N = 0;
  private static final int APART = 1;
  private static final int ODDS = 2;
  private static final int COST = 3;
  private static final int[] LEAST = {1, 1, 0, 0};
  private static final int[] MOST = {200, 200, 1000, 99};

  private static final int MOST_COUNTERS = 6;
  private static final int MOST_A = 9;
  private static final int MOST_N = 200;
  private static final int MOST_TALLIES = 8;
  private static final int MOST_TALLY = 9999;
  private static final int MOST_SHELVES = 8;
  private static final int MOST_ELEMENTS = 160;
  private static final int MOST_TOLD = 40;
  private static final int MOST_SECONDS = 400;
  private static final int ALL_PARTS = 1000000;

  private final Room now = new Room();
  private final Room kept = new Room();
  private boolean hasImage;
  private final RoomReader reader = new RoomReader();
  private int faultPlace = NONE;
  private final Shelf[] shelves = new Shelf[MOST_SHELVES];
  private final int[] refused = new int[8];
  private final Walk walk = new Walk();
  private final Chances chances = new Chances();
  private final Delays delays = new Delays();
  private final Counter listener = new Counter();
  private final int[] ownOffs = new int[MOST_N + 1];
  private final int[] otherOffs = new int[MOST_N + 1];
  private final Acts acts = new Acts();

  public WhatDidYouSay() {
    for (int s = 0; s < shelves.length; s++) shelves[s] = new Shelf();
  }

  // SHELVES and ROWS

  public int row(int s, int sort, int n) {
    if (!isShelf(s)) return refuse(NOBODY);
    if (n < 0) return refuse(BELOW);
    if (sort < Shelf.BYTES || sort > Shelf.LONGS) return refuse(WRONG);
    if (n > MOST_ELEMENTS) return refuse(FULL);
    shelves[s].holdRow(sort, n);
    return 1;
  }

  public int set(int s, int i, long v) {
    int no = rowRefusal(s);
    if (no == 0 && !shelves[s].hasElement(i)) no = BEYOND;
    if (no != 0) return refuse(no);
    shelves[s].become(i, v);
    return 1;
  }

  public int copy(int p, int q, int i, int j, int n) {
    int no = rowsRefusal(p, q);
    if (no == 0 && shelves[p].sort != shelves[q].sort) no = OTHER;
    if (no == 0 && n < 0) no = BELOW;
    if (no == 0 && !(shelves[p].hasPart(i, n) && shelves[q].hasPart(j, n))) no = BEYOND;
    if (no != 0) return refuse(no);
    shelves[q].takePart(shelves[p], i, j, n);
    return 1;
  }

  public long element(int s, int i) {
    return isShelf(s) ? shelves[s].elementAt(i) : 0;
  }

  public int show(int s, int counter) {
    if (!isShelf(s) || counter != NONE && !isCounter(counter)) return refuse(NOBODY);
    shelves[s].holdCounter(counter);
    return counter == NONE ? 0 : 1;
  }

  public int holds(int s) {
    return isShelf(s) ? shelves[s].content() : NONE;
  }

  public int says(int s, int kind) {
    if (!isShelf(s) || !isKind(kind)) return refuse(NOBODY);
    if (shelves[s].hasRow()) return refuse(OTHER);
    int counter = shelves[s].counter;
    if (!isCounter(counter)) return refuse(NOTHING);
    Counter who = now.counters[counter];
    if (!isUnder(who.kind, kind)) return refuse(OTHER);
    return who.saysAs(kind, now.apart);
  }

  // COUNTERS

  public int counter(int kind, int a) {
    if (!isKind(kind)) return refuse(NOBODY);
    if (a < 0 || a > MOST_A) return refuse(WRONG);
    if (!now.hasRoomForCounter()) return refuse(FULL);
    return now.addCounter(kind, a);
  }

  public int counterOf(int counter, int what) {
    if (!isCounter(counter)) return refuse(BEYOND);
    Counter who = now.counters[counter];
    switch (what) {
      case 0: return who.kind;
      case 1: return who.a;
      case 2: return who.at;
      case 3: return who.off;
      case 4: return who.heard;
      default: return refuse(BEYOND);
    }
  }

  public int ask(int what, int v) {
    if (!isSetting(what) || v < LEAST[what] || v > MOST[what]) return refuse(WRONG);
    return now.change(what, v);
  }

  public int put(int counter, int v) {
    if (!isCounter(counter)) return refuse(NOBODY);
    if (v < 0 || v > now.n) return refuse(WRONG);
    int was = now.counters[counter].at;
    now.counters[counter].at = v;
    return was;
  }

  // A ROOM from a text

  public int room(int s) {
    int no = rowRefusal(s);
    if (no != 0) return refuse(no);
    int items = reader.read(shelves[s], now);
    faultPlace = reader.fault;
    if (faultPlace != NONE) return refuse(WRONG);
    now.becomeLike(reader.over);
    return items;
  }

  public int fault() {
    return faultPlace;
  }

  // What comes of it

  public int back(int counter) {
    if (!isCounter(counter)) return refuse(NOBODY);
    if (now.isThrough(counter)) return refuse(WRONG);
    Counter who = now.counters[counter];
    return who.leftAt(who.at, who.heard + 1, now.apart);
  }

  public int run(int counter, int s, int n, int t, int what) {
    int no = isCounter(counter) ? partRefusal(s, n) : NOBODY;
    if (no == 0 && (what < 0 || what > 2)) no = BEYOND;
    if (no == 0 && (t < 0 || t > MOST_SECONDS || !areSeconds(s, n))) no = WRONG;
    if (no != 0) return refuse(no);
    walk.begin(now, counter, shelves[s], n);
    for (int second = 0; second < t; second++) walk.step();
    if (what == 0) return walk.who.at;
    return what == 1 ? walk.who.off : walk.who.heard;
  }

  public int through(int counter, int s, int n) {
    int no = isCounter(counter) ? secondsRefusal(s, n) : NOBODY;
    if (no != 0) return refuse(no) - SHIFT;
    walk.begin(now, counter, shelves[s], n);
    return walk.untilThrough();
  }

  public int chance(int counter, int t) {
    if (!isCounter(counter)) return refuse(NOBODY);
    if (t < 0 || t > MOST_SECONDS) return refuse(WRONG);
    return chances.behind(now, counter, t);
  }

  public int median(int counter, int c) {
    int no = chanceRefusal(counter, c);
    if (no != 0) return refuse(no) - SHIFT;
    return chances.untilAtLeast(c, now, counter, now.apart, MOST_SECONDS);
  }

  public int bestApart(int counter, int c) {
    int no = chanceRefusal(counter, c);
    if (no != NOBODY && !isUnder(now.counters[counter].kind, MARKER)) no = OTHER;
    if (no != 0) return refuse(no) - SHIFT;
    int best = NONE;
    int leastSum = Integer.MAX_VALUE;
    int leastSeconds = now.n - now.counters[counter].at;
    for (int apart = 1; apart <= now.n; apart++) {
      int cost = now.cost * (now.n / apart);
      // Only a lesser sum counts, so that of several the first stays.
      int most = Math.min(MOST_SECONDS, leastSum - 1 - cost);
      if (most < leastSeconds) continue;
      int seconds = chances.untilAtLeast(c, now, counter, apart, most);
      if (seconds == NONE) continue;
      best = apart;
      leastSum = seconds + cost;
    }
    return best;
  }

  public int when(int counter, int t, int what) {
    if (!isCounter(counter)) return refuse(NOBODY);
    if (what < 0 || what > 1) return refuse(BEYOND);
    if (t < 1 || t > 100 || now.isThrough(counter)) return refuse(WRONG);
    int found = 1;
    int foundThrough = throughWithBreak(counter, 1);
    for (int second = 2; second <= t; second++) {
      int seconds = throughWithBreak(counter, second);
      boolean better = what == 0 ? seconds <= foundThrough : seconds > foundThrough;
      if (!better) continue;
      found = second;
      foundThrough = seconds;
    }
    return found;
  }

  public int longest(int counter, int b) {
    int no = isCounter(counter) ? 0 : NOBODY;
    if (no == 0 && (b < 0 || b > 5)) no = WRONG;
    if (no != 0) return refuse(no) - SHIFT;
    int seconds = delays.most(now, counter, b);
    return seconds > MOST_SECONDS ? NONE : seconds;
  }

  public int fits(int counter, int t) {
    int no = isCounter(counter) ? 0 : NOBODY;
    if (no == 0 && (t < 0 || t > 100)) no = WRONG;
    if (no != 0) return refuse(no) - SHIFT;
    return delays.fewestBreaks(now, counter, t);
  }

  // Told evenings

  public int judge(int counter, int s, int n) {
    int no = saidRefusal(counter, s, n);
    if (no != 0) return refuse(no) - SHIFT;
    return firstWrong(counter, s, n);
  }

  public int breaks(int counter, int s, int n) {
    int no = saidRefusal(counter, s, n);
    if (no == 0 && firstWrong(counter, s, n) != NONE) no = WRONG;
    if (no != 0) return refuse(no);
    return listener.heard - now.counters[counter].heard;
  }

  // COUNTERS compared

  public int quickest(int s, int n) {
    int no = secondsRefusal(s, n);
    if (no != 0) return refuse(no) - SHIFT;
    int found = NONE;
    int least = MOST_SECONDS + 1;
    for (int counter = 0; counter < now.count; counter++) {
      walk.begin(now, counter, shelves[s], n);
      int seconds = walk.untilThrough();
      if (seconds == NONE || seconds >= least) continue;
      found = counter;
      least = seconds;
    }
    return found;
  }

  public int surest(int t) {
    if (now.count == 0) return refuse(BEYOND);
    if (t < 0 || t > MOST_SECONDS) return refuse(WRONG);
    int found = 0;
    int most = -1;
    for (int counter = 0; counter < now.count; counter++) {
      int parts = chances.behind(now, counter, t);
      if (parts <= most) continue;
      found = counter;
      most = parts;
    }
    return found;
  }

  public int parted(int counter, int other, int s, int t, int m) {
    int no = isCounter(counter) && isCounter(other) ? rowsRefusal(s, t) : NOBODY;
    if (no == 0 && (counter == other || m < 1 || m > MOST_N)) no = WRONG;
    if (no == 0 && !(areSeconds(s, shelves[s].length) && areSeconds(t, shelves[t].length))) no = WRONG;
    if (no != 0) return refuse(no) - SHIFT;
    noteFirstOffs(counter, s, ownOffs);
    noteFirstOffs(other, t, otherOffs);
    for (int number = m; number <= now.n; number += m) {
      if (ownOffs[number] != otherOffs[number]) return number;
    }
    return NONE;
  }

  // TALLIES

  public int tally(int v) {
    if (v < 0 || v > MOST_TALLY) return refuse(WRONG);
    if (!now.hasRoomForTally()) return refuse(FULL);
    return now.addTally(v);
  }

  public int tallies(int what) {
    switch (what) {
      case 0: return now.leastTrue();
      case 1: return now.liar();
      case 2: return now.spread();
      case 3: return now.tallyCount;
      default:
        if (what < 10 || what - 10 >= now.tallyCount) return refuse(BEYOND) - SHIFT;
        return now.numbers[what - 10];
    }
  }

  public int forget() {
    int was = now.tallyCount;
    now.tallyCount = 0;
    return was;
  }

  // IN TRUTH

  public int knits(int counter, int n) {
    if (!isCounter(counter)) return refuse(NOBODY);
    if (n < 1 || n > 100) return refuse(WRONG);
    for (int second = 0; second < n; second++) now.pass(counter, false);
    return now.counters[counter].at;
  }

  public int asks(int counter) {
    if (!isCounter(counter)) return refuse(NOBODY);
    if (now.isThrough(counter)) return refuse(WRONG);
    now.pass(counter, true);
    return now.counters[counter].at;
  }

  public int again(int counter) {
    if (!isCounter(counter)) return refuse(NOBODY);
    int was = now.counters[counter].at;
    now.counters[counter].beginAgain();
    return was;
  }

  public int evenings(int n) {
    if (now.count == 0) return refuse(BEYOND);
    if (n < 1 || n > 5) return refuse(WRONG);
    int before = now.done;
    for (int evening = 0; evening < n; evening++) now.passEvening();
    return now.done - before;
  }

  public int seed(int v) {
    int was = now.seed;
    now.seed = v;
    return was;
  }

  // ACTS

  public int act(int counter, int act, int x) {
    acts.forgetTrace();
    if (!isCounter(counter) || act < 0 || act > 2) return 0;
    return acts.perform(now.counters[counter], counter, act, x);
  }

  public int trace(int i) {
    return acts.bodyAt(i);
  }

  // THE IMAGE

  public int image() {
    kept.becomeLike(now);
    hasImage = true;
    return now.count;
  }

  public int restore() {
    if (!hasImage) return refuse(WRONG);
    now.becomeLike(kept);
    for (int s = 0; s < shelves.length; s++) {
      if (shelves[s].counter >= now.count) shelves[s].holdCounter(NONE);
    }
    return now.count;
  }

  public int status(int what) {
    if (what >= 11 && what <= 17) return refused[what - SHIFT];
    switch (what) {
      case 0: return now.count;
      case 1: return now.countThrough();
      case 2: return now.n;
      case 3: return now.apart;
      case 4: return now.odds;
      case 5: return now.cost;
      case 6: return now.done;
      case 7: return now.seed;
      case 8: return acts.ran;
      default: return NONE;
    }
  }

  // What is refused: 0, or the first refusal that fits

  private int refuse(int number) {
    if (number < 0 && -number < refused.length) refused[-number]++;
    return number;
  }

  private int rowRefusal(int s) {
    return rowsRefusal(s, s);
  }

  private int rowsRefusal(int p, int q) {
    if (!isShelf(p) || !isShelf(q)) return NOBODY;
    if (shelves[p].hasCounter() || shelves[q].hasCounter()) return OTHER;
    return shelves[p].hasRow() && shelves[q].hasRow() ? 0 : NOTHING;
  }

  /** Of the first n elements of a ROW. */
  private int partRefusal(int s, int n) {
    int no = rowRefusal(s);
    if (no != 0) return no;
    if (n < 0) return BELOW;
    return n > shelves[s].length ? BEYOND : 0;
  }

  private int secondsRefusal(int s, int n) {
    int no = partRefusal(s, n);
    if (no != 0) return no;
    return areSeconds(s, n) ? 0 : WRONG;
  }

  private int saidRefusal(int counter, int s, int n) {
    int no = isCounter(counter) ? partRefusal(s, n) : NOBODY;
    if (no != 0) return no;
    return n > MOST_TOLD ? WRONG : 0;
  }

  private int chanceRefusal(int counter, int c) {
    if (!isCounter(counter)) return NOBODY;
    return c < 1 || c > ALL_PARTS ? WRONG : 0;
  }

  private boolean areSeconds(int s, int n) {
    if (n > MOST_TOLD) return false;
    int before = 0;
    for (int i = 0; i < n; i++) {
      int second = shelves[s].intAt(i);
      if (second <= before) return false;
      before = second;
    }
    return true;
  }

  private static boolean isShelf(int s) {
    return s >= 0 && s < MOST_SHELVES;
  }

  private boolean isCounter(int counter) {
    return counter >= 0 && counter < now.count;
  }

  private static boolean isKind(int kind) {
    return kind >= 0 && kind < ABOVE.length;
  }

  private static boolean isSetting(int what) {
    return what >= 0 && what < MOST.length;
  }

  // Parts of what comes of it

  private int throughWithBreak(int counter, int second) {
    Counter who = now.counters[counter];
    int seconds = now.n - who.at;
    if (second > seconds) return seconds;
    int left = who.leftAt(who.at + second - 1, who.heard + 1, now.apart);
    return second + now.n - left;
  }

  /** The place of the first WRONG number; the listener has heard as many breaks as were right until then. */
  private int firstWrong(int counter, int s, int n) {
    listener.becomeLike(now.counters[counter]);
    for (int i = 0; i < n; i++) {
      if (listener.at >= now.n) return i;
      int said = shelves[s].intAt(i);
      if (said == listener.at + 1) listener.at = said;
      else if (said == listener.leftAt(listener.at, listener.heard + 1, now.apart)) listener.hear(now.apart);
      else return i;
    }
    return NONE;
  }

  /** For each number how far wrong the COUNTER is when it is first AT it; NONE: it never is. */
  private void noteFirstOffs(int counter, int s, int[] offs) {
    Arrays.fill(offs, NONE);
    walk.begin(now, counter, shelves[s], shelves[s].length);
    for (int second = 0; second <= MOST_SECONDS; second++) {
      int at = walk.who.at;
      if (at >= 0 && at < offs.length && offs[at] == NONE) offs[at] = walk.who.off;
      walk.step();
    }
  }

  private static boolean isUnder(int kind, int wanted) {
    int k = kind;
    for (int level = 0; level < ABOVE.length; level++) {
      if (k == wanted) return true;
      k = above(k);
    }
    return false;
  }

  private static int above(int kind) {
    return isKind(kind) ? ABOVE[kind] : NONE;
  }

  /** What is left over of a number by another; nothing by what divides nothing. */
  private static int leftOver(int number, int by) {
    return by < 1 ? 0 : number % by;
  }

  /** Who counts: where it stands, and what a SECOND makes of that. */
  private static final class Counter {
    int kind;
    int a;
    int at;
    int off;
    int heard;

    void becomeNew(int itsKind, int itsA) {
      kind = itsKind;
      a = itsA;
      beginAgain();
    }

    void becomeLike(Counter other) {
      kind = other.kind;
      a = other.a;
      at = other.at;
      off = other.off;
      heard = other.heard;
    }

    void beginAgain() {
      at = 0;
      off = 0;
      heard = 0;
    }

    boolean hearsBySoMany() {
      return isUnder(kind, STUBBORN);
    }

    /** Where a break leaves it that stands at a number and, with this break, has heard so many. */
    int leftAt(int number, int heardThen, int apart) {
      if (apart < 1 || a < 0) return number;
      int mark = number - number % apart;
      boolean listens = heardThen % (a + 1) == 0;
      switch (kind) {
        case MARKER: return mark;
        case SLIPPER: return number;
        case HEAPER: return number - number % (a + 2);
        case STUBBORN: return listens ? 0 : number;
        case LOUD: return number - mark <= a ? number : mark;
        case DEAF: return listens ? number / 2 : number;
        default: return 0;
      }
    }

    /** A break. */
    void hear(int apart) {
      heard++;
      at = leftAt(at, heard, apart);
      if (kind == SLIPPER) off += a + 1;
      if (kind == HEAPER) off++;
    }

    int saysAs(int itsKind, int apart) {
      switch (itsKind) {
        case MARKER: case LOUD: return at - leftOver(at, apart);
        case SLIPPER: case HEAPER: return at + off;
        case STUBBORN: return heard;
        case DEAF: return at / 2;
        default: return at;
      }
    }
  }

  /** All that THE IMAGE keeps: the COUNTERS, what they go by, the TALLIES. */
  private static final class Room {
    final Counter[] counters = new Counter[MOST_COUNTERS];
    int count;
    int n = 20;
    int apart = 5;
    int odds = 100;
    int cost = 1;
    final int[] numbers = new int[MOST_TALLIES];
    int tallyCount;
    int done;
    int seed = 1;

    Room() {
      for (int i = 0; i < counters.length; i++) counters[i] = new Counter();
    }

    void becomeLike(Room other) {
      for (int i = 0; i < counters.length; i++) counters[i].becomeLike(other.counters[i]);
      count = other.count;
      n = other.n;
      apart = other.apart;
      odds = other.odds;
      cost = other.cost;
      for (int i = 0; i < numbers.length; i++) numbers[i] = other.numbers[i];
      tallyCount = other.tallyCount;
      done = other.done;
      seed = other.seed;
    }

    boolean hasRoomForCounter() {
      return count < counters.length;
    }

    int addCounter(int kind, int a) {
      counters[count].becomeNew(kind, a);
      count++;
      return count - 1;
    }

    boolean hasRoomForTally() {
      return tallyCount < numbers.length;
    }

    int addTally(int number) {
      numbers[tallyCount] = number;
      tallyCount++;
      return tallyCount;
    }

    /** Sets one of what ask() sets: what it was. */
    int change(int what, int v) {
      int was;
      switch (what) {
        case N: was = n; n = v; holdAllWithinN(); return was;
        case APART: was = apart; apart = v; return was;
        case ODDS: was = odds; odds = v; return was;
        default: was = cost; cost = v; return was;
      }
    }

    private void holdAllWithinN() {
      for (int i = 0; i < count; i++) counters[i].at = Math.min(counters[i].at, n);
    }

    boolean isThrough(int counter) {
      return counters[counter].at >= n;
    }

    int countThrough() {
      int through = 0;
      for (int i = 0; i < count; i++) {
        if (isThrough(i)) through++;
      }
      return through;
    }

    /** A SECOND of a COUNTER in truth. */
    void pass(int counter, boolean isBreak) {
      if (isThrough(counter)) return;
      if (isBreak) counters[counter].hear(apart);
      else counters[counter].at++;
      if (isThrough(counter)) done++;
    }

    void passEvening() {
      for (int i = 0; i < count; i++) counters[i].beginAgain();
      for (int second = 0; second < 60 && countThrough() < count; second++) {
        for (int i = 0; i < count; i++) {
          // Who is through draws nothing.
          if (!isThrough(i)) pass(i, drawThousandth() < odds);
        }
      }
    }

    private int drawThousandth() {
      seed = seed * 1103515245 + 12345;
      return (seed >>> 16) % 1000;
    }

    int leastTrue() {
      int least = NONE;
      for (int i = 0; i < tallyCount; i++) {
        int number = numbers[i];
        boolean isTrue = countAlike(number) >= tallyCount - 1;
        if (isTrue && (least == NONE || number < least)) least = number;
      }
      return least;
    }

    int liar() {
      if (tallyCount < 3) return NONE;
      for (int i = 0; i < tallyCount; i++) {
        int others = numbers[i == 0 ? 1 : 0];
        if (numbers[i] != others && countAlike(others) == tallyCount - 1) return i;
      }
      return NONE;
    }

    int spread() {
      if (tallyCount == 0) return 0;
      int least = numbers[0];
      int greatest = numbers[0];
      for (int i = 1; i < tallyCount; i++) {
        least = Math.min(least, numbers[i]);
        greatest = Math.max(greatest, numbers[i]);
      }
      return greatest - least;
    }

    private int countAlike(int number) {
      int alike = 0;
      for (int i = 0; i < tallyCount; i++) {
        if (numbers[i] == number) alike++;
      }
      return alike;
    }
  }

  /** NOTHING, a ROW, or a COUNTER's number. */
  private static final class Shelf {
    static final int BYTES = 0;
    static final int SHORTS = 1;
    static final int INTS = 2;
    static final int LONGS = 3;

    int counter = NONE;
    int sort = NONE;
    int length;
    private final long[] elements = new long[MOST_ELEMENTS];

    boolean hasRow() {
      return sort != NONE;
    }

    boolean hasCounter() {
      return counter != NONE;
    }

    int content() {
      return hasRow() ? 100 + sort : counter;
    }

    void holdRow(int itsSort, int n) {
      counter = NONE;
      sort = itsSort;
      length = n;
      Arrays.fill(elements, 0L);
    }

    /** A COUNTER, or NOTHING: NONE. */
    void holdCounter(int number) {
      counter = number;
      sort = NONE;
      length = 0;
    }

    boolean hasElement(int i) {
      return i >= 0 && i < length;
    }

    boolean hasPart(int i, int n) {
      return i >= 0 && n >= 0 && n <= length - i;
    }

    long elementAt(int i) {
      return hasElement(i) ? elements[i] : 0;
    }

    int intAt(int i) {
      return (int) elementAt(i);
    }

    void become(int i, long v) {
      if (!hasElement(i)) return;
      switch (sort) {
        case BYTES: elements[i] = (byte) v; break;
        case SHORTS: elements[i] = (short) v; break;
        case INTS: elements[i] = (int) v; break;
        default: elements[i] = v; break;
      }
    }

    void takePart(Shelf from, int i, int j, int n) {
      if (from.hasPart(i, n) && hasPart(j, n)) System.arraycopy(from.elements, i, elements, j, n);
    }
  }

  /** Reads a ROOM over a draft of what there is; the draft is of no use when there is a FAULT. */
  private static final class RoomReader {
    // The first four are what ask() sets.
    private static final int TALLY_WORD = 4;
    private static final int COUNTER_WORD = 5;
    private static final int ASK_WORD = 6;
    private static final int WORDS = 7;
    private static final int MOST_DIGITS = 4;

    int fault = NONE;
    final Room over = new Room();
    private final int[] letters = new int[MOST_ELEMENTS];
    private int length;
    private int place;

    /** How many ITEMS; the FAULT is NONE, or where the text can't go on. */
    int read(Shelf row, Room asItIs) {
      over.becomeLike(asItIs);
      length = Math.min(row.length, letters.length);
      for (int i = 0; i < length; i++) letters[i] = row.intAt(i);
      place = 0;
      fault = NONE;
      readItem();
      int items = 1;
      // An ITEM takes an element at least, so that there are no more than these.
      while (items <= length && fault == NONE && place < length) {
        expect(';');
        readItem();
        items++;
      }
      return items;
    }

    private void readItem() {
      if (fault != NONE) return;
      int start = place;
      int word = readWord();
      if (fault != NONE) return;
      if (!hasRoomFor(word)) {
        fault = start;
        return;
      }
      expect(' ');
      if (word == COUNTER_WORD) readCounter();
      else if (word == TALLY_WORD) readTally();
      else if (word == ASK_WORD) readAsk();
      else readSetting(word);
    }

    private boolean hasRoomFor(int word) {
      if (word == COUNTER_WORD) return over.hasRoomForCounter();
      return word != TALLY_WORD || over.hasRoomForTally();
    }

    private void readCounter() {
      int kind = readNumber(0, ABOVE.length - 1);
      expect(' ');
      int a = readNumber(0, MOST_A);
      if (fault == NONE) over.addCounter(kind, a);
    }

    private void readTally() {
      int number = readNumber(0, MOST_TALLY);
      if (fault == NONE) over.addTally(number);
    }

    private void readAsk() {
      int start = place;
      int counter = readNumber(0, over.count - 1);
      if (fault != NONE) return;
      if (over.isThrough(counter)) fault = start;
      else over.pass(counter, true);
    }

    private void readSetting(int what) {
      if (!isSetting(what)) return;
      int v = readNumber(LEAST[what], MOST[what]);
      if (fault == NONE) over.change(what, v);
    }

    /** The word that stands here; else the FAULT is behind the most letters that begin one. */
    private int readWord() {
      int most = 0;
      for (int word = 0; word < WORDS; word++) {
        String name = nameOf(word);
        int alike = countAlike(name);
        if (alike == name.length()) {
          place += alike;
          return word;
        }
        most = Math.max(most, alike);
      }
      fault = place + most;
      return NONE;
    }

    private int countAlike(String name) {
      int alike = 0;
      while (alike < name.length() && place + alike < length && letters[place + alike] == name.charAt(alike)) alike++;
      return alike;
    }

    private static String nameOf(int word) {
      switch (word) {
        case N: return "to";
        case APART: return "apart";
        case ODDS: return "odds";
        case COST: return "cost";
        case TALLY_WORD: return "tally";
        case COUNTER_WORD: return "counter";
        default: return "ask";
      }
    }

    private void expect(char letter) {
      if (fault != NONE) return;
      if (place < length && letters[place] == letter) place++;
      else fault = place;
    }

    private int readNumber(int least, int most) {
      if (fault != NONE) return NONE;
      int start = place;
      int number = 0;
      while (place < length && place - start < MOST_DIGITS && letters[place] >= '0' && letters[place] <= '9') {
        number = number * 10 + letters[place] - '0';
        place++;
      }
      // No digit at all, or a NUMBER that may not be: both are told by the same place.
      if (place == start || number < least || number > most) fault = start;
      return number;
    }
  }

  /** A COUNTER by told SECONDS. */
  private static final class Walk {
    final Counter who = new Counter();
    private final int[] breaks = new int[MOST_TOLD];
    private int told;
    private int next;
    private int second;
    private int n;
    private int apart;

    void begin(Room room, int counter, Shelf row, int many) {
      who.becomeLike(room.counters[counter]);
      n = room.n;
      apart = room.apart;
      told = Math.min(many, breaks.length);
      for (int i = 0; i < told; i++) breaks[i] = row.intAt(i);
      next = 0;
      second = 0;
    }

    void step() {
      second++;
      boolean isBreak = next < told && breaks[next] == second;
      if (isBreak) next++;
      if (who.at >= n) return;
      if (isBreak) who.hear(apart);
      else who.at++;
    }

    int untilThrough() {
      for (int seconds = 0; seconds <= MOST_SECONDS; seconds++) {
        if (who.at >= n) return seconds;
        step();
      }
      return NONE;
    }
  }

  /** The parts of a COUNTER by where they are, and by what HEARD leaves over where its KIND looks at that. */
  private static final class Chances {
    private int[] parts = new int[(MOST_A + 1) * MOST_N];
    private int[] next = new int[(MOST_A + 1) * MOST_N];
    // Where a break leaves the parts of each place: told once, as many SECONDS ask for it.
    private final int[] lefts = new int[(MOST_A + 1) * MOST_N];
    private int n;
    private int odds;
    private int rests;
    private int arrived;
    // No parts are AT less or more than these.
    private int low;
    private int high;

    /** CHANCE behind t SECONDS. */
    int behind(Room room, int counter, int t) {
      begin(room, counter, room.apart);
      for (int second = 0; second < t; second++) pass();
      return arrived;
    }

    /** The fewest SECONDS behind which CHANCE is c at least; NONE: that takes more than the most. */
    int untilAtLeast(int c, Room room, int counter, int apart, int most) {
      begin(room, counter, apart);
      for (int second = 0; second <= most; second++) {
        if (arrived >= c) return second;
        pass();
      }
      return NONE;
    }

    private void begin(Room room, int counter, int apart) {
      Counter who = room.counters[counter];
      n = Math.min(room.n, MOST_N);
      odds = room.odds;
      rests = who.hearsBySoMany() ? Math.min(who.a, MOST_A) + 1 : 1;
      Arrays.fill(parts, 0);
      Arrays.fill(next, 0);
      noteLefts(who, apart);
      arrived = 0;
      low = n;
      high = NONE;
      if (room.isThrough(counter)) {
        arrived = ALL_PARTS;
        return;
      }
      parts[leftOver(who.heard, rests) * MOST_N + who.at] = ALL_PARTS;
      low = who.at;
      high = who.at;
    }

    private void noteLefts(Counter who, int apart) {
      for (int rest = 0; rest < rests; rest++) {
        for (int at = 0; at < n; at++) lefts[rest * MOST_N + at] = who.leftAt(at, rest + 1, apart);
      }
    }

    /** A SECOND of all parts. */
    private void pass() {
      int from = low;
      int to = high;
      low = n;
      high = NONE;
      for (int rest = 0; rest < rests; rest++) {
        passRest(rest * MOST_N, leftOver(rest + 1, rests) * MOST_N, from, to);
      }
      int[] row = parts;
      parts = next;
      next = row;
    }

    /** A SECOND of the parts with one rest, whose places begin here; by a break they go where the next rest's begin. */
    private void passRest(int here, int there, int from, int to) {
      for (int at = from; at <= to; at++) {
        int all = parts[here + at];
        if (all == 0) continue;
        // This row takes the parts of the SECOND after the next: it has to be empty by then.
        parts[here + at] = 0;
        int broken = all * odds / 1000;
        if (broken > 0) {
          int left = lefts[here + at];
          next[there + left] += broken;
          if (left < low) low = left;
          if (left > high) high = left;
        }
        if (at + 1 >= n) {
          arrived += all - broken;
        } else if (broken < all) {
          next[here + at + 1] += all - broken;
          if (at + 1 < low) low = at + 1;
          if (at + 1 > high) high = at + 1;
        }
      }
    }
  }

  /** What a COUNTER's THROUGH can be by breaks that come whenever they may. */
  private static final class Delays {
    private static final int MOST_BREAKS = 8;

    private int[] row = new int[MOST_N + 1];
    private int[] next = new int[MOST_N + 1];

    /** The greatest THROUGH by b breaks at most, however great. */
    int most(Room room, int counter, int b) {
      Counter who = room.counters[counter];
      // Told backwards: the row has the SECONDS still to come, by AT, with one break more behind it.
      for (int broken = b; broken >= 0; broken--) {
        next[room.n] = 0;
        for (int at = room.n - 1; at >= 0; at--) {
          int still = next[at + 1];
          if (broken < b) still = Math.max(still, row[who.leftAt(at, who.heard + broken + 1, room.apart)]);
          next[at] = still + 1;
        }
        swap();
      }
      return row[who.at];
    }

    /** The fewest breaks by which THROUGH can be just t; NONE: none that few. */
    int fewestBreaks(Room room, int counter, int t) {
      Counter who = room.counters[counter];
      // The row has, by AT, a bit for each number of breaks by which it can be there.
      Arrays.fill(row, 0);
      row[who.at] = 1;
      for (int second = 0; second < t; second++) {
        Arrays.fill(next, 0);
        for (int at = 0; at < room.n; at++) spread(room, who, at);
        swap();
      }
      for (int broken = 0; broken <= MOST_BREAKS; broken++) {
        if (hasBit(row[room.n], broken)) return broken;
      }
      return NONE;
    }

    private void spread(Room room, Counter who, int at) {
      int bits = row[at];
      if (bits == 0) return;
      next[at + 1] |= bits;
      for (int broken = 0; broken < MOST_BREAKS; broken++) {
        int left = who.leftAt(at, who.heard + broken + 1, room.apart);
        if (hasBit(bits, broken)) next[left] |= 1 << (broken + 1);
      }
    }

    private static boolean hasBit(int bits, int i) {
      return (bits >> i & 1) != 0;
    }

    private void swap() {
      int[] was = row;
      row = next;
      next = was;
    }
  }

  /** ACTS, whose bodies stand by KINDS, and THE TRACE of the latest. */
  private static final class Acts {
    int ran;
    private final int[] bodies = new int[20];
    private int kind;
    private int number;
    private int a;

    void forgetTrace() {
      ran = 0;
    }

    int bodyAt(int i) {
      return i >= 0 && i < ran && i < bodies.length ? bodies[i] : NONE;
    }

    int perform(Counter who, int itsNumber, int act, int x) {
      kind = who.kind;
      number = itsNumber;
      a = who.a;
      if (act == 0) return doCounts(kind, x);
      return act == 1 ? doAsks(kind, x) : doEnds(kind, x);
    }

    private void begin(int body) {
      if (ran < bodies.length) bodies[ran] = body;
      ran++;
    }

    // Each looks for a body from a KIND upwards; the chain of KINDS above keeps that short.

    private int doCounts(int from, int x) {
      switch (from) {
        case COUNTER: begin(10); return x + number;
        case MARKER: begin(20); return doCounts(above(from), x) + a;
        case STUBBORN: begin(51); return doCounts(above(from), x) - number;
        case DEAF: begin(70); return doCounts(above(from), x) * 2;
        default: return isKind(from) ? doCounts(above(from), x) : 0;
      }
    }

    private int doAsks(int from, int x) {
      switch (from) {
        case COUNTER: begin(11); return doCounts(kind, x) * 2;
        case SLIPPER: begin(30); return doAsks(above(from), x) * 3;
        case HEAPER: begin(40); return doAsks(above(from), x + 1);
        case DEAF: begin(71); return doAsks(above(from), x - a);
        default: return isKind(from) ? doAsks(above(from), x) : 0;
      }
    }

    private int doEnds(int from, int x) {
      switch (from) {
        case COUNTER: begin(12); return endCounter(x);
        case STUBBORN: begin(50); return -doEnds(above(from), x);
        case LOUD: begin(60); return doEnds(above(from), x) ^ 5;
        default: return isKind(from) ? doEnds(above(from), x) : 0;
      }
    }

    private int endCounter(int x) {
      int asked = doAsks(kind, x);
      return asked ^ doCounts(kind, x - a);
    }
  }
}
