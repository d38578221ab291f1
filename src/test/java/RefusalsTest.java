import java.lang.reflect.InvocationTargetException;
import java.lang.reflect.Method;

/**
 * Every refusal of every promise: by itself, then together with all that come behind it, so that the first that fits is
 * answered; each counts once, as the one it is, and changes nothing else. Calls that refuse nothing stand at the end.
 */
public final class RefusalsTest {
  private static final int LEAST = Integer.MIN_VALUE;
  private static final int MOST = Integer.MAX_VALUE;
  private static final Dues dues = new Dues();

  public static void main(String[] args) {
    terms();
    rows();
    copies();
    shelves();
    counters();
    full();
    rooms();
    backs();
    runs();
    throughs();
    chances();
    bestAparts();
    whens();
    anyBreaks();
    judges();
    breaks();
    quickest();
    surest();
    parted();
    tallies();
    truth();
    images();
    nothingIsRefused();
    dues.end();
  }

  /**
   * COUNTERS: 0 a MARKER AT 3 of 20, 1 a COUNTER that is through, 2 a SLIPPER. SHELVES: 0 three SECONDS as ints, 1
   * forty-one, 2 three as longs, 3 COUNTER 0, 4 NOTHING, 5 a ROW of none, 6 elements that are no SECONDS, 7 a text.
   */
  private static WhatDidYouSay room() {
    WhatDidYouSay x = new WhatDidYouSay();
    x.counter(1, 0);
    x.counter(0, 1);
    x.counter(2, 2);
    x.put(0, 3);
    x.knits(1, 20);
    x.asks(2);
    x.tally(7);
    x.tally(9);
    x.image();
    x.ask(3, 4);
    x.ask(2, 300);
    x.tally(3);
    x.seed(77);
    Dues.seconds(x, 0, 3);
    Dues.seconds(x, 1, 41);
    Dues.row(x, 2, 3, 1, 2, 3);
    x.show(3, 0);
    x.row(5, 2, 0);
    Dues.row(x, 6, 2, 2, 2, 1, 0);
    Dues.text(x, 7, "to x");
    x.room(7);
    x.act(1, 2, 5);
    return x;
  }

  private static WhatDidYouSay fullRoom() {
    WhatDidYouSay x = room();
    for (int i = 0; i < 3; i++) x.counter(4, i);
    for (int i = 0; i < 5; i++) x.tally(i);
    return x;
  }

  private static WhatDidYouSay emptyRoom() {
    WhatDidYouSay x = new WhatDidYouSay();
    Dues.seconds(x, 0, 3);
    return x;
  }

  private static void no(int want, String name, int... args) {
    StringBuilder call = new StringBuilder(name);
    for (int arg : args) call.append(' ').append(arg);
    dues.refusedAlone(RefusalsTest::room, call.toString(), x -> call(x, name, args), want);
  }

  private static void noWhenFull(int want, String name, int... args) {
    dues.refusedAlone(RefusalsTest::fullRoom, name + " when full", x -> call(x, name, args), want);
  }

  private static void noWhenEmpty(int want, String name, int... args) {
    dues.refusedAlone(RefusalsTest::emptyRoom, name + " when empty", x -> call(x, name, args), want);
  }

  /** The same call is no refusal: it answers this. */
  private static void yes(int want, String name, int... args) {
    WhatDidYouSay x = room();
    int[] before = Dues.refusals(x);
    dues.due(name + " is not refused", call(x, name, args), want);
    dues.due(name + " counts as none", java.util.Arrays.equals(before, Dues.refusals(x)) ? 1 : 0, 1);
  }

  private static int call(WhatDidYouSay x, String name, int... args) {
    for (Method m : WhatDidYouSay.class.getMethods()) {
      if (!m.getName().equals(name) || m.getParameterCount() != args.length) continue;
      Object[] all = new Object[args.length];
      for (int i = 0; i < all.length; i++) all[i] = m.getParameterTypes()[i] == long.class ? (Object) (long) args[i] : (Object) args[i];
      try {
        return ((Number) m.invoke(x, all)).intValue();
      } catch (IllegalAccessException | InvocationTargetException e) {
        throw new IllegalStateException(name, e);
      }
    }
    throw new IllegalStateException("no " + name);
  }

  private static void terms() {
    dues.sentence(0, "REFUSALS (the call answers the number; nothing changes but how many there were; the first that fits, in this order)");
    WhatDidYouSay x = new WhatDidYouSay();
    int[] answers = {x.show(8, -1), x.says(0, 0), x.row(0, 0, 1), x.says(0, 0), x.set(1, 0, 0), x.row(0, 0, -1), x.set(0, 1, 0), x.ask(0, 0), x.row(0, 0, 161)};
    int[] want = {-1, -3, 1, -2, -3, -4, -5, -6, -7};
    for (int i = 0; i < want.length; i++) dues.due("answer " + i, answers[i], want[i]);
    int[] counts = {1, 1, 2, 1, 1, 1, 1};
    for (int i = 0; i < counts.length; i++) dues.due("status(" + (11 + i) + ")", x.status(11 + i), counts[i]);
    dues.sentence(0, "-1 NOBODY: no such SHELF, COUNTER, KIND.");
    no(-1, "show", 8, 0);
    no(-1, "back", 3);
    no(-1, "counter", 7, 0);
    dues.sentence(0, "-2 OTHER: a SHELF that holds a COUNTER where a ROW is wanted, or the other way about, ROWS of two SORTS, a COUNTER that isn't of the KIND wanted, or one under it.");
    no(-2, "set", 3, 0, 1);
    no(-2, "says", 0, 0);
    no(-2, "copy", 0, 2, 0, 0, 1);
    no(-2, "says", 3, 2);
    no(-2, "says", 3, 5);
    yes(3, "says", 3, 0);
    dues.sentence(0, "-3 NOTHING: a SHELF that holds NOTHING.");
    no(-3, "says", 4, 0);
    no(-3, "set", 4, 0, 1);
    dues.sentence(0, "-4 BELOW: a size below 0.");
    no(-4, "row", 0, 0, -1);
    yes(1, "row", 0, 0, 0);
    dues.sentence(0, "-5 BEYOND: an element that isn't there; nothing such to be told of.");
    no(-5, "set", 0, 3, 1);
    no(-5, "counterOf", 0, 5);
    dues.sentence(0, "-6 WRONG: a number that may not be, a FAULT, what can't be as things stand.");
    no(-6, "ask", 0, 201);
    no(-6, "asks", 1);
    dues.sentence(0, "-7 ROOM: more than may be.");
    no(-7, "row", 0, 0, 161);
  }

  private static void rows() {
    dues.sentence(2, "-1; -4; -6 SORT; -7 n above 160.");
    int[][] noShelf = {{8, 0, 1}, {-1, 0, 1}, {LEAST, 0, 1}, {MOST, 0, 1}, {8, 4, -1}, {-1, -1, 161}, {8, 0, -1}, {8, 0, 161}};
    for (int[] args : noShelf) no(-1, "row", args);
    int[][] below = {{0, 0, -1}, {0, 3, LEAST}, {0, 4, -1}, {0, -1, -1}};
    for (int[] args : below) no(-4, "row", args);
    int[][] sorts = {{0, 4, 1}, {0, -1, 0}, {0, LEAST, 1}, {0, MOST, 1}, {0, 4, 161}, {0, -1, MOST}};
    for (int[] args : sorts) no(-6, "row", args);
    no(-7, "row", 0, 3, 161);
    no(-7, "row", 4, 0, MOST);
    dues.sentence(3, "-1; -2; -3; -5.");
    int[][] noShelves = {{8, 0, 1}, {-1, 0, 1}, {8, -1, 1}, {LEAST, 0, 1}, {MOST, 3, 1}};
    for (int[] args : noShelves) no(-1, "set", args);
    no(-2, "set", 3, 0, 1);
    no(-2, "set", 3, -1, 1);
    no(-3, "set", 4, 0, 1);
    no(-3, "set", 4, 160, 1);
    int[][] beyond = {{0, 3, 1}, {0, -1, 1}, {5, 0, 1}, {0, LEAST, 1}, {0, MOST, 1}, {0, 159, 1}};
    for (int[] args : beyond) no(-5, "set", args);
  }

  private static void copies() {
    dues.sentence(4, "-1; -2 also of two SORTS (when both hold something); -3 either; -4 n; -5 i or j below 0, or an end that isn't there.");
    int[][] noShelf = {{8, 0, 0, 0, 1}, {0, 8, 0, 0, 1}, {-1, 0, 0, 0, 1}, {0, -1, 0, 0, 1}, {8, 3, -1, -1, -1}, {3, 8, -1, -1, -1}, {8, 4, 9, 9, 9},
        {4, -1, 9, 9, -9}};
    for (int[] args : noShelf) no(-1, "copy", args);
    int[][] other = {{3, 0, 0, 0, 1}, {0, 3, 0, 0, 1}, {3, 3, 0, 0, 1}, {0, 2, 0, 0, 1}, {2, 0, 0, 0, 1}, {3, 4, 0, 0, 1}, {4, 3, 0, 0, 1},
        {3, 4, -1, -1, -1}, {4, 3, -1, -1, -1}, {0, 2, -1, -1, -1}, {0, 2, 0, 0, 4}};
    for (int[] args : other) no(-2, "copy", args);
    int[][] nothing = {{4, 0, 0, 0, 1}, {0, 4, 0, 0, 1}, {4, 4, 0, 0, 0}, {4, 2, 0, 0, 1}, {2, 4, 0, 0, 1}, {4, 0, -1, -1, -1}, {0, 4, 0, 0, 4}};
    for (int[] args : nothing) no(-3, "copy", args);
    int[][] below = {{0, 0, 0, 0, -1}, {0, 1, 1, 1, LEAST}, {0, 0, -1, -1, -1}, {0, 1, 4, 42, -1}};
    for (int[] args : below) no(-4, "copy", args);
    int[][] beyond = {{0, 1, -1, 0, 1}, {0, 1, 0, -1, 1}, {0, 1, -1, 0, 0}, {0, 1, 0, -1, 0}, {0, 1, 0, 0, 4}, {1, 0, 0, 0, 4}, {0, 1, 1, 0, 3},
        {1, 0, 0, 1, 3}, {0, 1, 4, 0, 0}, {1, 0, 0, 4, 0}, {0, 5, 0, 0, 1}, {5, 0, 0, 0, 1}, {5, 5, 0, 0, 1}, {5, 5, 1, 0, 0}, {0, 1, MOST, 0, 1},
        {0, 1, 0, MOST, 1}, {0, 1, 1, 1, MOST}, {0, 1, LEAST, 0, 0}, {0, 1, 0, LEAST, 0}};
    for (int[] args : beyond) no(-5, "copy", args);
    int[][] may = {{0, 1, 0, 0, 3}, {0, 1, 3, 41, 0}, {0, 1, 2, 40, 1}, {5, 5, 0, 0, 0}, {0, 0, 0, 0, 3}};
    for (int[] args : may) yes(1, "copy", args);
  }

  private static void shelves() {
    dues.sentence(6, "SHELF s holds a COUNTER, or NOTHING (counter NONE): 1, 0. -1.");
    int[][] none = {{8, 0}, {-1, 0}, {8, -1}, {-1, -1}, {0, 3}, {0, -2}, {8, 3}, {LEAST, 0}, {0, MOST}, {0, LEAST}};
    for (int[] args : none) no(-1, "show", args);
    dues.sentence(8, "-1 SHELF, KIND; -2 also a COUNTER of another KIND; -3.");
    int[][] noShelf = {{8, 0}, {-1, 0}, {3, 7}, {3, -1}, {0, 7}, {0, -1}, {4, 7}, {4, -1}, {8, 7}, {3, LEAST}, {3, MOST}, {MOST, 0}};
    for (int[] args : noShelf) no(-1, "says", args);
    int[][] other = {{0, 0}, {5, 6}, {3, 2}, {3, 3}, {3, 4}, {3, 5}, {3, 6}};
    for (int[] args : other) no(-2, "says", args);
    no(-3, "says", 4, 0);
    no(-3, "says", 4, 6);
  }

  private static void counters() {
    dues.sentence(9, "A COUNTER: the number. -1 KIND; -6; -7.");
    int[][] noKind = {{7, 0}, {-1, 0}, {7, 10}, {-1, -1}, {LEAST, 0}, {MOST, 0}};
    for (int[] args : noKind) no(-1, "counter", args);
    int[][] wrong = {{0, 10}, {0, -1}, {6, LEAST}, {6, MOST}};
    for (int[] args : wrong) no(-6, "counter", args);
    dues.sentence(10, "-5: no such one, another what.");
    int[][] beyond = {{3, 0}, {-1, 0}, {0, 5}, {0, -1}, {3, 5}, {-1, -1}, {LEAST, 0}, {MOST, 0}, {0, LEAST}, {0, MOST}};
    for (int[] args : beyond) no(-5, "counterOf", args);
    dues.sentence(11, "becomes v: what it was. -6.");
    int[][] may = {{0, 0}, {0, 201}, {0, -1}, {1, 0}, {1, 201}, {2, -1}, {2, 1001}, {3, -1}, {3, 100}, {4, 1}, {-1, 1}, {4, LEAST}, {MOST, 1}, {LEAST, 1},
        {0, LEAST}, {1, MOST}, {2, LEAST}, {3, MOST}};
    for (int[] args : may) no(-6, "ask", args);
    dues.sentence(12, "where it was. -1; -6.");
    int[][] nobody = {{3, 0}, {-1, 0}, {3, -1}, {-1, 21}, {LEAST, 0}, {MOST, 0}};
    for (int[] args : nobody) no(-1, "put", args);
    int[][] at = {{0, -1}, {0, 21}, {1, LEAST}, {1, MOST}};
    for (int[] args : at) no(-6, "put", args);
  }

  private static void full() {
    dues.sentence(9, "A COUNTER: the number. -1 KIND; -6; -7.");
    noWhenFull(-7, "counter", 0, 0);
    noWhenFull(-7, "counter", 6, 9);
    noWhenFull(-6, "counter", 0, 10);
    noWhenFull(-6, "counter", 0, -1);
    noWhenFull(-1, "counter", 7, 0);
    noWhenFull(-1, "counter", -1, 10);
    dues.sentence(29, "A TALLY: how many there are. -6; -7.");
    noWhenFull(-7, "tally", 0);
    noWhenFull(-7, "tally", 9999);
    noWhenFull(-6, "tally", -1);
    noWhenFull(-6, "tally", 10000);
    dues.sentence(10, "-5: no such one, another what.");
    noWhenFull(-5, "counterOf", 6, 0);
    dues.sentence(30, "10 and a TALLY: its number. -15: another what, no such one (counted as -5).");
    noWhenFull(-15, "tallies", 18);
  }

  private static void rooms() {
    dues.sentence(13, "A ROOM by the ROW in SHELF s: how many ITEMS. -1; -2; -3; -6 a FAULT.");
    no(-1, "room", 8);
    no(-1, "room", -1);
    no(-1, "room", LEAST);
    no(-1, "room", MOST);
    no(-2, "room", 3);
    no(-3, "room", 4);
    // The FAULT of SHELF 7 is told already; that of others is another.
    no(-6, "room", 7);
    WhatDidYouSay x = room();
    dues.refused(x, "room of none", () -> x.room(5), -6);
    dues.due("its FAULT", x.fault(), 0);
  }

  private static void backs() {
    dues.sentence(15, "Where a break would leave a COUNTER. -1; -6 it is through.");
    for (int counter : new int[] {3, -1, LEAST, MOST}) no(-1, "back", counter);
    no(-6, "back", 1);
  }

  private static void runs() {
    dues.sentence(16, "-1 also the COUNTER; -2; -3; -4 n; -5 fewer elements, another what; -6 n above 40, t, SECONDS that aren't ascending from 1 on.");
    int[][] noShelf = {{3, 0, 1, 1, 0}, {-1, 0, 1, 1, 0}, {0, 8, 1, 1, 0}, {0, -1, 1, 1, 0}, {3, 3, -1, -1, 3}, {3, 4, -1, 401, 3}, {0, 8, -1, -1, -1},
        {-1, 8, 42, 401, 3}, {LEAST, 0, 1, 1, 0}, {0, MOST, 1, 1, 0}, {3, 6, 2, 1, 0}};
    for (int[] args : noShelf) no(-1, "run", args);
    int[][] other = {{0, 3, 0, 0, 0}, {0, 3, -1, -1, 3}, {0, 3, 42, 401, -1}};
    for (int[] args : other) no(-2, "run", args);
    int[][] nothing = {{0, 4, 0, 0, 0}, {0, 4, -1, -1, 3}, {0, 4, 42, 401, -1}};
    for (int[] args : nothing) no(-3, "run", args);
    int[][] below = {{0, 0, -1, 0, 0}, {0, 0, LEAST, 0, 0}, {0, 0, -1, -1, 3}, {0, 5, -1, 401, -1}, {0, 6, -1, 0, 0}};
    for (int[] args : below) no(-4, "run", args);
    int[][] beyond = {{0, 0, 4, 0, 0}, {0, 5, 1, 0, 0}, {0, 0, 3, 0, 3}, {0, 0, 3, 0, -1}, {0, 1, 42, 0, 0}, {0, 1, 42, 401, 3}, {0, 1, 41, 0, 3},
        {0, 0, 3, 401, 3}, {0, 0, 3, -1, -1}, {0, 6, 2, 0, 3}, {0, 6, 5, 0, 0}, {0, 0, MOST, 0, 0}, {0, 0, 0, 0, LEAST}, {0, 0, 0, 0, MOST}};
    for (int[] args : beyond) no(-5, "run", args);
    int[][] wrong = {{0, 1, 41, 0, 0}, {0, 0, 3, -1, 0}, {0, 0, 3, 401, 0}, {0, 6, 2, 0, 0}, {0, 6, 3, 0, 2}, {0, 0, 0, LEAST, 0}, {0, 0, 0, MOST, 0}};
    for (int[] args : wrong) no(-6, "run", args);
    yes(41, "run", 2, 1, 40, 40, 2);
  }

  private static void throughs() {
    dues.sentence(17, "-11; -12; -13; -14; -15; -16 (counted as -1 to -6).");
    int[][] nobody = {{3, 0, 1}, {-1, 0, 1}, {0, 8, 1}, {0, -1, 1}, {3, 3, -1}, {3, 4, -1}, {0, 8, -1}, {-1, 8, 42}, {LEAST, 0, 0}, {0, LEAST, 0}};
    for (int[] args : nobody) no(-11, "through", args);
    told("through", 0);
  }

  /** What a call of a COUNTER, or of none (counter -1), with a SHELF and n SECONDS refuses behind NOBODY. */
  private static void told(String name, int counter) {
    int[][] rows = {{-12, 3, 0}, {-12, 3, -1}, {-12, 3, 42}, {-13, 4, 0}, {-13, 4, -1}, {-13, 4, 42}, {-14, 0, -1}, {-14, 0, LEAST}, {-14, 5, -1},
        {-14, 6, -1}, {-15, 0, 4}, {-15, 5, 1}, {-15, 1, 42}, {-15, 6, 5}, {-15, 0, MOST}, {-16, 1, 41}, {-16, 6, 2}, {-16, 6, 3}, {-16, 6, 4}};
    for (int[] row : rows) {
      if (counter < 0) no(row[0], name, row[1], row[2]);
      else no(row[0], name, counter, row[1], row[2]);
    }
  }

  private static void chances() {
    dues.sentence(18, "CHANCE. -1; -6.");
    int[][] nobody = {{3, 0}, {-1, 0}, {3, -1}, {-1, 401}, {LEAST, 0}, {MOST, 0}};
    for (int[] args : nobody) no(-1, "chance", args);
    int[][] t = {{0, -1}, {0, 401}, {1, -1}, {0, LEAST}, {0, MOST}};
    for (int[] args : t) no(-6, "chance", args);
    dues.sentence(19, "MEDIAN; NONE. -11; -16 (counted as -1, -6).");
    int[][] none = {{3, 1}, {-1, 1}, {3, 0}, {-1, 1000001}};
    for (int[] args : none) no(-11, "median", args);
    int[][] c = {{0, 0}, {0, 1000001}, {0, -1}, {1, 0}, {0, LEAST}, {0, MOST}};
    for (int[] args : c) no(-16, "median", args);
  }

  private static void bestAparts() {
    dues.sentence(20, "BEST APART; NONE. -11; -12 another KIND; -16 c (counted as -1, -2, -6).");
    int[][] nobody = {{3, 1}, {-1, 1}, {3, 0}, {-1, 1000001}, {MOST, 1}};
    for (int[] args : nobody) no(-11, "bestApart", args);
    int[][] other = {{1, 1}, {2, 1}, {1, 0}, {2, 1000001}, {2, LEAST}};
    for (int[] args : other) no(-12, "bestApart", args);
    int[][] c = {{0, 0}, {0, 1000001}, {0, LEAST}, {0, MOST}};
    for (int[] args : c) no(-16, "bestApart", args);
  }

  private static void whens() {
    dues.sentence(21, "-1; -5 another what; -6 t, it is through.");
    int[][] nobody = {{3, 1, 0}, {-1, 1, 0}, {3, 1, 2}, {3, 0, 0}, {-1, 101, -1}};
    for (int[] args : nobody) no(-1, "when", args);
    int[][] beyond = {{0, 1, 2}, {0, 1, -1}, {0, 0, 2}, {0, 101, -1}, {1, 1, 2}, {1, 0, LEAST}, {0, 1, MOST}};
    for (int[] args : beyond) no(-5, "when", args);
    int[][] wrong = {{0, 0, 0}, {0, 101, 0}, {0, -1, 1}, {0, 101, 1}, {1, 1, 0}, {1, 100, 1}, {0, LEAST, 0}, {0, MOST, 0}};
    for (int[] args : wrong) no(-6, "when", args);
  }

  private static void anyBreaks() {
    dues.sentence(22, "-11; -16 (counted as -1, -6).");
    int[][] nobody = {{3, 0}, {-1, 0}, {3, -1}, {-1, 6}};
    for (int[] args : nobody) no(-11, "longest", args);
    int[][] b = {{0, -1}, {0, 6}, {1, 6}, {0, LEAST}, {0, MOST}};
    for (int[] args : b) no(-16, "longest", args);
    dues.sentence(23, "FITS (t 0 to 100); NONE. -11; -16 (counted as -1, -6).");
    int[][] none = {{3, 0}, {-1, 0}, {3, -1}, {-1, 101}};
    for (int[] args : none) no(-11, "fits", args);
    int[][] t = {{0, -1}, {0, 101}, {1, 101}, {0, LEAST}, {0, MOST}};
    for (int[] args : t) no(-16, "fits", args);
  }

  private static void judges() {
    dues.sentence(24, "-11 also the COUNTER; -12; -13; -14 n; -15 fewer elements; -16 n above 40 (counted as -1 to -6).");
    int[][] nobody = {{3, 0, 1}, {-1, 0, 1}, {0, 8, 1}, {0, -1, 1}, {3, 3, -1}, {3, 4, -1}, {0, 8, -1}, {-1, 8, 42}};
    for (int[] args : nobody) no(-11, "judge", args);
    int[][] rows = {{-12, 3, 0}, {-12, 3, -1}, {-12, 3, 42}, {-13, 4, 0}, {-13, 4, -1}, {-13, 4, 42}, {-14, 0, -1}, {-14, 5, LEAST}, {-15, 0, 4}, {-15, 5, 1},
        {-15, 1, 42}, {-15, 0, MOST}, {-16, 1, 41}};
    for (int[] row : rows) no(row[0], "judge", 0, row[1], row[2]);
    yes(0, "judge", 0, 6, 4);
  }

  private static void breaks() {
    dues.sentence(25, "BREAKS of it. -1; -2; -3; -4; -5; -6 also if it is WRONG.");
    int[][] nobody = {{3, 0, 1}, {-1, 0, 1}, {0, 8, 1}, {0, -1, 1}, {3, 3, -1}, {3, 4, -1}, {0, 8, -1}, {-1, 8, 42}};
    for (int[] args : nobody) no(-1, "breaks", args);
    int[][] rows = {{-2, 3, 0}, {-2, 3, -1}, {-2, 3, 42}, {-3, 4, 0}, {-3, 4, -1}, {-3, 4, 42}, {-4, 0, -1}, {-4, 5, LEAST}, {-5, 0, 4}, {-5, 5, 1},
        {-5, 1, 42}, {-5, 6, 5}, {-5, 0, MOST}, {-6, 1, 41}, {-6, 6, 1}, {-6, 6, 4}};
    for (int[] row : rows) no(row[0], "breaks", 0, row[1], row[2]);
    yes(0, "breaks", 0, 6, 0);
  }

  private static void quickest() {
    dues.sentence(26, "NONE: none is through within 400. -11; -12; -13; -14; -15; -16 (counted as -1 to -6).");
    int[][] nobody = {{8, 1}, {-1, 1}, {8, -1}, {-1, 42}, {LEAST, 0}, {MOST, 0}};
    for (int[] args : nobody) no(-11, "quickest", args);
    told("quickest", -1);
    dues.due("none of no COUNTERS", emptyRoom().quickest(0, 3), -1);
    noWhenEmpty(-15, "quickest", 0, 4);
    noWhenEmpty(-13, "quickest", 1, -1);
  }

  private static void surest() {
    dues.sentence(27, "SUREST. -5 no COUNTERS; -6 t.");
    noWhenEmpty(-5, "surest", 0);
    noWhenEmpty(-5, "surest", -1);
    noWhenEmpty(-5, "surest", 401);
    no(-6, "surest", -1);
    no(-6, "surest", 401);
    no(-6, "surest", LEAST);
    no(-6, "surest", MOST);
  }

  private static void parted() {
    dues.sentence(28, "-11 also COUNTERS; -12; -13; -16 the same COUNTER, m, ROWS of more than 40, SECONDS that aren't ascending from 1 on (counted as -1 to -6).");
    int[][] nobody = {{3, 1, 0, 0, 1}, {0, 3, 0, 0, 1}, {-1, 1, 0, 0, 1}, {0, -1, 0, 0, 1}, {0, 1, 8, 0, 1}, {0, 1, 0, 8, 1}, {0, 1, -1, 0, 1}, {0, 1, 0, -1, 1},
        {3, 3, 3, 3, 0}, {0, 3, 3, 4, 0}, {3, 0, 4, 4, 0}, {0, 0, 8, 3, 0}, {0, 0, 4, 8, 201}, {0, 3, 6, 1, 0}};
    for (int[] args : nobody) no(-11, "parted", args);
    int[][] other = {{0, 1, 3, 0, 1}, {0, 1, 0, 3, 1}, {0, 0, 3, 4, 0}, {0, 0, 4, 3, 201}, {0, 0, 3, 6, 0}};
    for (int[] args : other) no(-12, "parted", args);
    int[][] nothing = {{0, 1, 4, 0, 1}, {0, 1, 0, 4, 1}, {0, 0, 4, 4, 0}, {0, 0, 1, 4, 201}, {0, 0, 4, 6, 1}};
    for (int[] args : nothing) no(-13, "parted", args);
    int[][] wrong = {{0, 0, 0, 0, 1}, {0, 1, 0, 0, 0}, {0, 1, 0, 0, 201}, {0, 1, 0, 0, -1}, {0, 1, 1, 0, 1}, {0, 1, 0, 1, 1}, {0, 1, 6, 0, 1}, {0, 1, 0, 6, 1},
        {0, 1, 0, 0, LEAST}, {0, 1, 0, 0, MOST}};
    for (int[] args : wrong) no(-16, "parted", args);
  }

  private static void tallies() {
    dues.sentence(29, "A TALLY: how many there are. -6; -7.");
    for (int v : new int[] {-1, 10000, LEAST, MOST}) no(-6, "tally", v);
    dues.sentence(30, "-15: another what, no such one (counted as -5).");
    for (int what : new int[] {-1, 4, 9, 13, 17, 18, LEAST, MOST}) no(-15, "tallies", what);
    noWhenEmpty(-15, "tallies", 10);
  }

  private static void truth() {
    dues.sentence(32, "AT. -1; -6 n.");
    int[][] nobody = {{3, 1}, {-1, 1}, {3, 0}, {-1, 101}};
    for (int[] args : nobody) no(-1, "knits", args);
    int[][] n = {{0, 0}, {0, 101}, {0, -1}, {1, 0}, {1, 101}, {0, LEAST}, {0, MOST}};
    for (int[] args : n) no(-6, "knits", args);
    dues.sentence(33, "A break of a COUNTER in truth: AT. -1; -6 it is through.");
    for (int counter : new int[] {3, -1, LEAST, MOST}) no(-1, "asks", counter);
    no(-6, "asks", 1);
    dues.sentence(34, "AT ahead. -1.");
    for (int counter : new int[] {3, -1, LEAST, MOST}) no(-1, "again", counter);
    dues.sentence(35, "-5 no COUNTERS; -6.");
    noWhenEmpty(-5, "evenings", 1);
    noWhenEmpty(-5, "evenings", 0);
    noWhenEmpty(-5, "evenings", 6);
    for (int evenings : new int[] {0, 6, -1, LEAST, MOST}) no(-6, "evenings", evenings);
  }

  private static void images() {
    dues.sentence(40, "-6 there is none.");
    noWhenEmpty(-6, "restore");
    WhatDidYouSay x = emptyRoom();
    dues.refused(x, "restore", x::restore, -6);
    dues.due("image", x.image(), 0);
    dues.due("restore", x.restore(), 0);
  }

  private static void nothingIsRefused() {
    int[] odd = {LEAST, -2, -1, 0, 1, 7, 8, 9, 10, 18, 160, MOST};
    WhatDidYouSay x = new WhatDidYouSay();
    for (int v : odd) {
      dues.sentence(5, "0 if there is none (nothing is refused).");
      dues.due("element", x.element(v, v), 0);
      dues.due("element", x.element(0, v), 0);
      dues.sentence(7, "NONE NOTHING, or no such SHELF");
      dues.due("holds", x.holds(v), -1);
      dues.sentence(36, "SEED becomes v: what it was (nothing is refused).");
      x.seed(v);
      dues.due("SEED", x.status(7), v);
      dues.sentence(37, "0, and no TRACE then: no such COUNTER, act.");
      dues.due("act", x.act(v, 0, v), 0);
      dues.due("act", x.act(0, v, v), 0);
      dues.sentence(38, "NONE: none such.");
      dues.due("trace", x.trace(v), -1);
      if (v == 0 || v == 1 || v == 7 || v == 8) continue;
      dues.sentence(41, "NONE for another what.");
      dues.due("status", x.status(v), -1);
    }
    dues.sentence(0, "REFUSALS (the call answers the number; nothing changes but how many there were");
    x.fault();
    x.forget();
    x.image();
    dues.nothingRefused(x);
  }
}
