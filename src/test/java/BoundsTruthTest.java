/** The bounds of what is done in truth, of EVENINGS, ACTS and THE IMAGE ("Terms", 3.), and of promises 32 to 41. */
public final class BoundsTruthTest {
  private static final Dues dues = new Dues();

  public static void main(String[] args) {
    inTruth();
    knits();
    asks();
    again();
    done();
    evenings();
    sixtySeconds();
    untilAllAreThrough();
    draws();
    belowOdds();
    seed();
    acts();
    wrappingActs();
    trace();
    noTrace();
    image();
    restore();
    status();
    refusalsCounted();
    lastCall();
    dues.end();
  }

  private static void inTruth() {
    dues.sentence(0, "IN TRUTH: SECONDS, breaks.");
    WhatDidYouSay x = Dues.with(1, 0, 17, 20);
    x.counter(1, 0);
    dues.due("SECONDS", x.knits(0, 2), 19);
    dues.due("a break", x.asks(0), 15);
    dues.due("SECONDS", x.knits(0, 5), 20);
    dues.at(x, 0, 20, 0, 1);
    dues.at(x, 1, 0, 0, 0);
  }

  private static void knits() {
    dues.sentence(32, "n SECONDS (1 to 100) of a COUNTER in truth, until it is through: AT. -1; -6 n.");
    WhatDidYouSay x = Dues.with(0, 0, 0, 200);
    dues.due("1", x.knits(0, 1), 1);
    dues.due("100", x.knits(0, 100), 101);
    dues.refused(x, "0", () -> x.knits(0, 0), -6);
    dues.refused(x, "101", () -> x.knits(0, 101), -6);
    dues.due("to N less 1", x.knits(0, 98), 199);
    dues.due("DONE", x.status(6), 0);
    dues.due("until it is through", x.knits(0, 100), 200);
    dues.due("DONE", x.status(6), 1);
    dues.due("it is", x.knits(0, 1), 200);
    dues.due("DONE stays", x.status(6), 1);
    dues.at(x, 0, 200, 0, 0);
    dues.due("just to N", Dues.with(0, 0, 0, 100).knits(0, 100), 100);
  }

  private static void asks() {
    dues.sentence(33, "A break of a COUNTER in truth: AT. -1; -6 it is through.");
    WhatDidYouSay x = Dues.with(3, 9, 19, 20);
    dues.due("AT", x.asks(0), 11);
    dues.at(x, 0, 11, 1, 1);
    dues.due("AT 0", Dues.with(0, 0, 0, 20).asks(0), 0);
    x.put(0, 20);
    dues.refused(x, "through", () -> x.asks(0), -6);
    dues.at(x, 0, 20, 1, 1);
    dues.due("N 1", Dues.with(2, 0, 0, 1).asks(0), 0);
  }

  private static void again() {
    dues.sentence(34, "A COUNTER begins again (AT, OFF, HEARD 0): AT ahead. -1.");
    WhatDidYouSay x = Dues.with(2, 4, 7, 20);
    x.counter(2, 0);
    x.put(1, 9);
    x.asks(1);
    x.asks(0);
    x.put(0, 20);
    dues.due("from N", x.again(0), 20);
    dues.at(x, 0, 0, 0, 0);
    dues.due("from 0", x.again(0), 0);
    dues.at(x, 1, 9, 1, 1);
    dues.due("a stays", x.counterOf(0, 1), 4);
  }

  private static void done() {
    dues.sentence(0, "DONE: how many times somebody came through in truth (0 at first).");
    WhatDidYouSay x = Dues.with(0, 0, 0, 5);
    x.counter(1, 0);
    dues.due("at first", x.status(6), 0);
    x.knits(0, 5);
    x.knits(1, 99);
    dues.due("two", x.status(6), 2);
    x.again(0);
    dues.due("stays by again", x.status(6), 2);
    x.knits(0, 5);
    dues.due("once more", x.status(6), 3);
    x.put(0, 4);
    x.put(0, 5);
    x.ask(0, 4);
    dues.due("stays by put and a lesser N", x.status(6), 3);
    x.ask(0, 5);
    x.knits(0, 1);
    dues.due("through again", x.status(6), 4);
    x.ask(2, 0);
    dues.due("evenings", x.evenings(5), 10);
    dues.due("these too", x.status(6), 14);
    Dues.room(x, "to 1");
    dues.due("stays by a text", x.status(6), 14);
  }

  private static void evenings() {
    dues.sentence(0, "EVENINGS by draws, n times: all COUNTERS begin again (AT, OFF, HEARD 0);");
    WhatDidYouSay x = new WhatDidYouSay();
    for (int i = 0; i < 6; i++) {
      x.counter(2, 0);
      x.asks(i);
      x.put(i, 20);
    }
    x.ask(0, 61);
    x.ask(2, 1000);
    dues.due("none comes through", x.evenings(5), 0);
    for (int i = 0; i < 6; i++) dues.at(x, i, 0, 60, 60);
    dues.sentence(35, "n EVENINGS by draws (1 to 5) in truth: how many came through in these. -5 no COUNTERS; -6.");
    x.ask(2, 0);
    x.ask(0, 60);
    dues.due("1", x.evenings(1), 6);
    dues.due("5", x.evenings(5), 30);
    dues.due("DONE", x.status(6), 36);
    dues.refused(x, "0", () -> x.evenings(0), -6);
    dues.refused(x, "6", () -> x.evenings(6), -6);
    dues.due("DONE stays", x.status(6), 36);
    WhatDidYouSay none = new WhatDidYouSay();
    dues.refused(none, "no COUNTERS", () -> none.evenings(1), -5);
    dues.due("SEED stays", none.status(7), 1);
  }

  private static void sixtySeconds() {
    dues.sentence(0, "then up to 60 SECONDS:");
    WhatDidYouSay x = Dues.with(0, 0, 0, 60);
    x.ask(2, 0);
    dues.due("60", x.evenings(1), 1);
    x.ask(0, 61);
    dues.due("61", x.evenings(1), 0);
    dues.due("AT", x.counterOf(0, 2), 60);
    x.ask(2, 1000);
    x.seed(1);
    x.evenings(1);
    dues.due("60 breaks", x.counterOf(0, 4), 60);
    dues.due("60 draws", x.status(7), drawn(1, 60));
  }

  private static void untilAllAreThrough() {
    dues.sentence(0, "each, by numbers, that isn't through: a DRAW below 1000:");
    WhatDidYouSay x = Dues.with(0, 0, 0, 7);
    x.counter(1, 0);
    x.ask(2, 0);
    x.evenings(1);
    dues.due("7 draws each", x.status(7), drawn(1, 14));
    dues.sentence(0, "until all are through.");
    x.seed(1);
    x.evenings(5);
    dues.due("no draw behind that", x.status(7), drawn(1, 70));
    // By ODDS of the first draw itself COUNTER 0 is through in the first SECOND; the draw of COUNTER 1 is below.
    WhatDidYouSay one = Dues.with(0, 0, 0, 1);
    one.counter(0, 0);
    one.ask(2, (drawn(1, 1) >>> 16) % 1000);
    one.evenings(1);
    dues.due("COUNTER 0 has heard none by the first draw", one.counterOf(0, 4), 0);
    dues.due("COUNTER 1 draws by itself then", one.counterOf(1, 4) > 0 ? 1 : 0, 1);
    dues.due("and alone", one.status(7), drawn(1, 2 + one.counterOf(1, 4)));
  }

  /** So many DRAWS on from a SEED, told with longs. */
  private static int drawn(int seed, int times) {
    long s = seed;
    for (int i = 0; i < times; i++) s = (s * 1103515245L + 12345L) & 0xFFFFFFFFL;
    return (int) s;
  }

  private static void draws() {
    dues.sentence(0, "A DRAW below n: SEED (1 at first) becomes SEED times 1103515245, and 12345 (an int, wrapping); its upper 16 bits, no sign, modulo n.");
    dues.due("at first", new WhatDidYouSay().status(7), 1);
    int[] seeds = {0, 1, 2, 3, 4, 5, -1, -2, -3, Integer.MAX_VALUE, Integer.MIN_VALUE, 65535, 65536, 1103515245, 12345, -12345};
    int signs = 0;
    for (int seed : seeds) {
      int next = drawn(seed, 1);
      if (next < 0) signs++;
      long upper = (next & 0xFFFFFFFFL) >> 16;
      WhatDidYouSay x = Dues.with(0, 0, 0, 1);
      x.ask(2, (int) (upper % 1000));
      x.seed(seed);
      x.evenings(1);
      dues.due("ODDS of the draw itself: a SECOND by SEED " + seed, x.counterOf(0, 4), 0);
      dues.due("one draw", x.status(7), next);
      x.ask(2, (int) (upper % 1000) + 1);
      x.seed(seed);
      x.evenings(1);
      dues.due("ODDS of 1 more: a break first by SEED " + seed, x.counterOf(0, 4) > 0 ? 1 : 0, 1);
    }
    dues.due("some with a sign, some without", signs > 0 && signs < seeds.length ? 1 : 0, 1);
    dues.due("the first of SEED 1", drawn(1, 1), 1103527590);
    dues.due("SEED 0", drawn(0, 1), 12345);
  }

  private static void belowOdds() {
    dues.sentence(0, "below ODDS a break, else a SECOND;");
    for (int seed = 0; seed < 20; seed++) {
      WhatDidYouSay x = Dues.with(2, 0, 0, 60);
      x.seed(seed * 1000003);
      x.ask(2, 0);
      dues.due("ODDS 0: never", x.evenings(1), 1);
      dues.at(x, 0, 60, 0, 0);
      x.ask(2, 1000);
      dues.due("ODDS 1000: always", x.evenings(1), 0);
      dues.at(x, 0, 0, 60, 60);
    }
  }

  private static void seed() {
    dues.sentence(36, "SEED becomes v: what it was (nothing is refused).");
    WhatDidYouSay x = new WhatDidYouSay();
    int was = 1;
    for (int v : new int[] {0, -1, Integer.MAX_VALUE, Integer.MIN_VALUE, 1}) {
      dues.due("seed", x.seed(v), was);
      dues.due("status", x.status(7), v);
      was = v;
    }
    dues.nothingRefused(x);
  }

  private static WhatDidYouSay sixOf(int kind, int a) {
    WhatDidYouSay x = new WhatDidYouSay();
    for (int i = 0; i < 6; i++) x.counter(kind, a);
    return x;
  }

  /** COUNTER 5 of a 9 acts with 0: its answer, then its bodies. */
  private static void act(int kind, int act, int want, int... bodies) {
    WhatDidYouSay x = sixOf(kind, 9);
    dues.due("act " + act + " of KIND " + kind, x.act(5, act, 0), want);
    for (int i = 0; i < bodies.length; i++) dues.due("body " + i + " of KIND " + kind, x.trace(i), bodies[i]);
    dues.due("no more", x.trace(bodies.length), -1);
    dues.due("how many", x.status(8), bodies.length);
  }

  private static void acts() {
    dues.sentence(0, "ACTS of COUNTERS, with x (wrapping): 0 counts, 1 asks, 2 ends; m the number, k its a.");
    WhatDidYouSay x = sixOf(0, 0);
    dues.due("m 0", x.act(0, 0, 0), 0);
    dues.due("m 5", x.act(5, 0, 0), 5);
    dues.due("no act -1", x.act(0, -1, 7), 0);
    dues.due("no act 3", x.act(0, 3, 7), 0);
    dues.due("no COUNTER -1", x.act(-1, 0, 7), 0);
    dues.due("no COUNTER 6", x.act(6, 0, 7), 0);
    dues.due("k 0", sixOf(1, 0).act(5, 0, 0), 5);
    dues.sentence(0, "BODIES, each with its number: COUNTER: 10 counts: x + m. 11 asks: counts(x) * 2. 12 ends: asks(x) ^ counts(x - k).");
    act(0, 0, 5, 10);
    act(0, 1, 10, 11, 10);
    act(0, 2, 10 ^ -4, 12, 11, 10, 10);
    dues.sentence(0, "MARKER: 20 counts: super.counts(x) + k.");
    act(1, 0, 14, 20, 10);
    act(1, 1, 28, 11, 20, 10);
    act(1, 2, 28 ^ 5, 12, 11, 20, 10, 20, 10);
    dues.sentence(0, "SLIPPER: 30 asks: super.asks(x) * 3.");
    act(2, 0, 5, 10);
    act(2, 1, 30, 30, 11, 10);
    act(2, 2, 30 ^ -4, 12, 30, 11, 10, 10);
    dues.sentence(0, "HEAPER: 40 asks: super.asks(x + 1).");
    act(3, 0, 5, 10);
    act(3, 1, 36, 40, 30, 11, 10);
    act(3, 2, 36 ^ -4, 12, 40, 30, 11, 10, 10);
    dues.sentence(0, "STUBBORN: 50 ends: -super.ends(x). 51 counts: super.counts(x) - m.");
    act(4, 0, 0, 51, 10);
    act(4, 1, 0, 11, 51, 10);
    act(4, 2, 9, 50, 12, 11, 51, 10, 51, 10);
    dues.sentence(0, "LOUD: 60 ends: super.ends(x) ^ 5.");
    act(5, 0, 14, 20, 10);
    act(5, 1, 28, 11, 20, 10);
    act(5, 2, 28 ^ 5 ^ 5, 60, 12, 11, 20, 10, 20, 10);
    dues.sentence(0, "DEAF: 70 counts: super.counts(x) * 2. 71 asks: super.asks(x - k).");
    act(6, 0, 0, 70, 51, 10);
    act(6, 1, -36, 71, 11, 70, 51, 10);
    act(6, 2, -(-36 ^ -18), 50, 12, 71, 11, 70, 51, 10, 70, 51, 10);
    dues.sentence(0, "counts(..) and so on: the body of the COUNTER's KIND, or of the next KIND above that has one; super: from the KIND above the body's on.");
    act(3, 1, 36, 40, 30, 11, 10);
  }

  private static void wrappingActs() {
    dues.sentence(0, "with x (wrapping)");
    WhatDidYouSay x = sixOf(0, 9);
    dues.due("x + m", x.act(5, 0, Integer.MAX_VALUE), Integer.MIN_VALUE + 4);
    dues.due("x + m of the least", x.act(5, 0, Integer.MIN_VALUE), Integer.MIN_VALUE + 5);
    dues.due("* 2", x.act(0, 1, Integer.MIN_VALUE), 0);
    dues.due("* 2", x.act(0, 1, 1 << 30), Integer.MIN_VALUE);
    dues.due("x - k", x.act(0, 2, Integer.MIN_VALUE), Integer.MAX_VALUE - 8);
    dues.due("+ k", sixOf(1, 9).act(0, 0, Integer.MAX_VALUE), Integer.MIN_VALUE + 8);
    dues.due("* 3", sixOf(2, 0).act(0, 1, 1 << 30), Integer.MIN_VALUE);
    dues.due("x + 1", sixOf(3, 0).act(0, 1, Integer.MAX_VALUE), 0);
    dues.due("- m: back to x", sixOf(4, 0).act(5, 0, Integer.MAX_VALUE), Integer.MAX_VALUE);
    dues.due("- of the least", sixOf(4, 0).act(0, 2, Integer.MIN_VALUE), Integer.MIN_VALUE);
    dues.due("counts * 2", sixOf(6, 0).act(0, 0, Integer.MIN_VALUE), 0);
    dues.due("asks of x - k", sixOf(6, 1).act(0, 1, Integer.MIN_VALUE), -4);
  }

  private static void trace() {
    dues.sentence(0, "THE TRACE: the numbers of the bodies that ran in the latest act(), in the order in which they began; the first 20 are kept.");
    WhatDidYouSay x = sixOf(6, 9);
    dues.due("none yet", x.trace(0), -1);
    x.act(0, 2, 3);
    int[] most = {50, 12, 71, 11, 70, 51, 10, 70, 51, 10};
    for (int i = 0; i < most.length; i++) dues.due("trace " + i, x.trace(i), most[i]);
    for (int i : new int[] {10, 19, 20, -1, Integer.MAX_VALUE, Integer.MIN_VALUE}) dues.due("trace " + i, x.trace(i), -1);
    x.act(0, 0, 3);
    dues.due("of the latest", x.trace(0), 70);
    dues.due("the last of it", x.trace(2), 10);
    dues.due("none of those ahead", x.trace(3), -1);
    dues.sentence(38, "THE TRACE's i-th body. NONE: none such.");
    dues.due("-1", x.trace(-1), -1);
    dues.nothingRefused(x);
  }

  private static void noTrace() {
    dues.sentence(37, "An ACT of a COUNTER with x. 0, and no TRACE then: no such COUNTER, act.");
    int[][] calls = {{6, 0}, {-1, 0}, {0, 3}, {0, -1}, {Integer.MIN_VALUE, 0}, {0, Integer.MAX_VALUE}};
    for (int[] call : calls) {
      WhatDidYouSay x = sixOf(0, 0);
      x.act(0, 0, 1);
      dues.due("act", x.act(call[0], call[1], 9), 0);
      dues.due("TRACE", x.trace(0), -1);
      dues.due("bodies", x.status(8), 0);
      dues.nothingRefused(x);
    }
  }

  private static void image() {
    dues.sentence(39, "THE IMAGE of all but SHELVES (and THE IMAGE, REFUSALS, the FAULT, THE TRACE) is taken: how many COUNTERS.");
    WhatDidYouSay x = new WhatDidYouSay();
    dues.due("of none", x.image(), 0);
    for (int i = 0; i < 6; i++) x.counter(i, i);
    for (int i = 0; i < 8; i++) x.tally(i);
    int[] settings = {200, 200, 1000, 99};
    for (int what = 0; what < 4; what++) x.ask(what, settings[what]);
    x.put(5, 199);
    x.asks(2);
    x.knits(5, 1);
    x.seed(-7);
    dues.due("of 6", x.image(), 6);
    java.util.List<Integer> before = Dues.all(x);
    for (int i = 0; i < 6; i++) x.again(i);
    x.forget();
    for (int what = 0; what < 4; what++) x.ask(what, 1);
    x.evenings(1);
    x.tally(77);
    x.act(0, 0, 0);
    Dues.text(x, 0, "t");
    x.room(0);
    x.row(1, 9, 9);
    dues.due("restore", x.restore(), 6);
    java.util.List<Integer> after = Dues.all(x);
    dues.due("REFUSALS stay", after.get(5), 2);
    // Behind the REFUSALS: status 0 to 7; then the bodies, which stay; COUNTERS and TALLIES.
    dues.due("what status tells", after.subList(7, 15).equals(before.subList(7, 15)) ? 1 : 0, 1);
    dues.due("the bodies stay", after.get(15), 1);
    dues.due("COUNTERS and TALLIES", after.subList(16, 58).equals(before.subList(16, 58)) ? 1 : 0, 1);
    dues.due("the FAULT stays", x.fault(), 1);
    dues.due("THE TRACE stays", x.trace(0), 10);
    dues.due("SHELVES stay", x.holds(0), 100);
  }

  private static void restore() {
    dues.sentence(40, "All is as THE IMAGE has it; SHELVES with COUNTERS hold those of these numbers, or NOTHING: how many COUNTERS. -6 there is none.");
    WhatDidYouSay x = new WhatDidYouSay();
    dues.refused(x, "there is none", x::restore, -6);
    x.counter(2, 0);
    x.counter(2, 1);
    x.image();
    x.counter(2, 2);
    for (int s = 0; s < 4; s++) x.show(s, s == 3 ? -1 : s);
    x.put(1, 7);
    dues.due("says", x.says(1, 0), 7);
    dues.due("restore", x.restore(), 2);
    int[] want = {0, 1, -1, -1};
    for (int s = 0; s < 4; s++) dues.due("SHELF " + s, x.holds(s), want[s]);
    dues.due("the COUNTER of that number", x.says(1, 0), 0);
    dues.refused(x, "NOTHING there", () -> x.says(2, 0), -3);
    dues.refused(x, "nor such a COUNTER", () -> x.counterOf(2, 0), -5);
    dues.due("another of the number", x.counter(0, 5), 2);
    dues.due("SHELF 2 stays with NOTHING", x.holds(2), -1);
    dues.due("restore again", x.restore(), 2);
    dues.due("a later image", x.image(), 2);
    x.counter(0, 0);
    dues.due("is taken anew", x.image(), 3);
    dues.due("by that", x.restore(), 3);
    WhatDidYouSay y = new WhatDidYouSay();
    y.image();
    for (int i = 0; i < 6; i++) y.counter(0, 0);
    for (int s = 0; s < 8; s++) y.show(s, s % 6);
    dues.due("an image of none", y.restore(), 0);
    for (int s = 0; s < 8; s++) dues.due("SHELF " + s, y.holds(s), -1);
  }

  private static void status() {
    dues.sentence(41, "How many: 0 COUNTERS, 1 through, 2 N, 3 APART, 4 ODDS, 5 COST, 6 DONE, 7 SEED, 8 bodies that ran in the latest act() (all, kept or not);");
    WhatDidYouSay x = sixOf(6, 0);
    int[] settings = {19, 18, 17, 16};
    for (int what = 0; what < 4; what++) x.ask(what, settings[what]);
    for (int i = 0; i < 6; i++) x.knits(i, 19);
    x.seed(-4);
    x.act(0, 2, 0);
    int[] want = {6, 6, 19, 18, 17, 16, 6, -4, 10};
    for (int what = 0; what < want.length; what++) dues.due("status " + what, x.status(what), want[what]);
    x.again(3);
    dues.due("through", x.status(1), 5);
    dues.sentence(41, "NONE for another what.");
    for (int what : new int[] {-1, 9, 10, 18, 19, Integer.MIN_VALUE, Integer.MAX_VALUE}) dues.due("status " + what, x.status(what), -1);
    dues.nothingRefused(x);
  }

  private static void refusalsCounted() {
    dues.sentence(41, "11 to 17: REFUSALS -1 to -7.");
    WhatDidYouSay x = Dues.with(0, 0, 0, 20);
    x.show(0, 0);
    x.put(1, 0);
    for (int i = 0; i < 2; i++) x.set(0, 0, 0);
    for (int i = 0; i < 3; i++) x.room(1);
    for (int i = 0; i < 4; i++) x.row(1, 0, -1);
    for (int i = 0; i < 5; i++) x.counterOf(1, 0);
    for (int i = 0; i < 6; i++) x.ask(0, 0);
    for (int i = 0; i < 7; i++) x.row(1, 0, 161);
    for (int i = 0; i < 7; i++) dues.due("REFUSALS " + (-1 - i), x.status(11 + i), i + 1);
    // Those of -11 to -16 count with them.
    x.median(1, 1);
    x.bestApart(0, 1);
    x.through(0, 1, 0);
    x.row(1, 0, 0);
    x.judge(0, 1, -1);
    x.tallies(10);
    x.fits(0, 101);
    for (int i = 0; i < 6; i++) dues.due("with -11 to -16 " + (-1 - i), x.status(11 + i), i + 2);
    dues.due("-7 alone", x.status(17), 7);
  }

  /** The document: an object is used for at most 512 calls; the last of these is answered as any. */
  private static void lastCall() {
    dues.sentence(33, "A break of a COUNTER in truth: AT.");
    WhatDidYouSay x = new WhatDidYouSay();
    x.counter(2, 9);
    for (int i = 0; i < 510; i++) x.asks(0);
    dues.due("the 512th call", x.counterOf(0, 3), 5100);
    WhatDidYouSay y = new WhatDidYouSay();
    for (int i = 0; i < 510; i++) y.set(0, 0, 0);
    y.counter(0, 0);
    dues.due("the 512th call", y.status(13), 510);
  }
}
