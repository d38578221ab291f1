/** Promises 16 to 23 and 26 to 28: what comes of it, while nothing is changed. */
public final class AheadTest {
  private static final Dues dues = new Dues();

  public static void main(String[] args) {
    runs();
    runsRefused();
    through();
    chances();
    medians();
    bestAparts();
    whens();
    longest();
    fits();
    quickest();
    surest();
    parted();
    partedRefused();
    dues.end();
  }

  private static WhatDidYouSay with(int kind, int a, int at, int n) {
    WhatDidYouSay x = new WhatDidYouSay();
    x.counter(kind, a);
    x.ask(0, n);
    x.put(0, at);
    return x;
  }

  private static void runs() {
    // Breaks in the SECONDS 3, 8, 9 of one who is AT 4: AT, OFF, HEARD behind 3, 8, 9, 12 of them.
    int[][] rows = {
        {0, 0, 0, 0, 1, 0, 0, 2, 0, 0, 3, 3, 0, 3},
        {1, 0, 5, 0, 1, 5, 0, 2, 5, 0, 3, 8, 0, 3},
        {2, 2, 6, 3, 1, 10, 6, 2, 10, 9, 3, 13, 9, 3},
        {3, 1, 6, 1, 1, 9, 2, 2, 9, 3, 3, 12, 3, 3},
        {4, 1, 6, 0, 1, 0, 0, 2, 0, 0, 3, 3, 0, 3},
        {5, 1, 6, 0, 1, 10, 0, 2, 10, 0, 3, 13, 0, 3},
        {6, 1, 6, 0, 1, 5, 0, 2, 5, 0, 3, 8, 0, 3}};
    int[] behind = {3, 8, 9, 12};
    for (int[] row : rows) {
      WhatDidYouSay x = with(row[0], row[1], 4, 20);
      Dues.row(x, 1, 1, 3, 8, 9, 5);
      for (int i = 0; i < 12; i++) {
        dues.due("run of KIND " + row[0] + " behind " + behind[i / 3] + ", " + i % 3, x.run(0, 1, 3, behind[i / 3], i % 3), row[2 + i]);
      }
      dues.due("behind none", x.run(0, 1, 3, 0, 0), 4);
      dues.due("no break told", x.run(0, 1, 0, 12, 0), 16);
      dues.due("through stays so", x.run(0, 1, 0, 400, 0), 20);
      dues.due("nothing is changed", x.counterOf(0, 2) + x.counterOf(0, 3) + x.counterOf(0, 4), 4);
    }
    WhatDidYouSay x = with(2, 0, 18, 20);
    Dues.row(x, 0, 2, 2, 4, 5);
    dues.due("who is through hears nothing", x.run(0, 0, 3, 300, 2), 1);
    dues.due("and stays", x.run(0, 0, 3, 300, 1), 1);
    x.put(0, 20);
    dues.due("nor who was", x.run(0, 0, 3, 300, 2), 0);
    Dues.row(x, 0, 3, 1 + (5L << 32), 3 - (1L << 40), 1000000);
    x.put(0, 0);
    dues.due("longs as ints", x.run(0, 0, 3, 3, 2), 2);
  }

  private static void runsRefused() {
    WhatDidYouSay x = with(0, 0, 0, 20);
    x.show(1, 0);
    x.row(3, 2, 41);
    for (int i = 0; i < 41; i++) x.set(3, i, i + 1);
    Dues.row(x, 0, 2, 3, 3, 9, 0);
    dues.refused(x, "no COUNTER", () -> x.run(1, 2, -1, -1, 3), -1);
    dues.refused(x, "no COUNTER", () -> x.run(-1, 0, 0, 0, 0), -1);
    dues.refused(x, "no SHELF", () -> x.run(0, 8, -1, -1, 3), -1);
    dues.refused(x, "no SHELF", () -> x.run(0, -1, -1, -1, 3), -1);
    dues.refused(x, "a COUNTER", () -> x.run(0, 1, -1, -1, 3), -2);
    dues.refused(x, "NOTHING", () -> x.run(0, 2, -1, -1, 3), -3);
    dues.refused(x, "n below 0", () -> x.run(0, 0, -1, -1, 3), -4);
    dues.refused(x, "fewer elements", () -> x.run(0, 0, 5, -1, 0), -5);
    dues.refused(x, "fewer than 42", () -> x.run(0, 3, 42, 0, 0), -5);
    dues.refused(x, "another what", () -> x.run(0, 0, 1, -1, 3), -5);
    dues.refused(x, "another what", () -> x.run(0, 3, 41, 401, -1), -5);
    dues.refused(x, "n above 40", () -> x.run(0, 3, 41, 1, 0), -6);
    dues.refused(x, "t", () -> x.run(0, 0, 1, -1, 0), -6);
    dues.refused(x, "t", () -> x.run(0, 0, 1, 401, 0), -6);
    dues.refused(x, "twice the same", () -> x.run(0, 0, 2, 1, 0), -6);
    dues.due("the first alone", x.run(0, 0, 1, 400, 2), 1);
    dues.due("all 40", x.run(0, 3, 40, 400, 2), 40);
    x.set(0, 0, 0);
    dues.refused(x, "from 1 on", () -> x.run(0, 0, 1, 1, 0), -6);
    x.set(0, 0, -1);
    dues.refused(x, "from 1 on", () -> x.run(0, 0, 1, 1, 0), -6);
    x.set(0, 0, 4);
    dues.refused(x, "descending", () -> x.run(0, 0, 2, 1, 0), -6);
  }

  private static void through() {
    WhatDidYouSay x = with(0, 0, 7, 20);
    Dues.row(x, 0, 2, 2, 13, 14);
    x.show(1, 0);
    x.row(3, 2, 41);
    dues.due("no break", x.through(0, 0, 0), 13);
    dues.due("one", x.through(0, 0, 1), 22);
    dues.due("two", x.through(0, 0, 2), 33);
    dues.due("three", x.through(0, 0, 3), 34);
    x.put(0, 20);
    dues.due("it is", x.through(0, 0, 3), 0);
    x.ask(0, 200);
    x.put(0, 0);
    Dues.row(x, 0, 2, 200);
    dues.due("just within 400", x.through(0, 0, 1), 400);
    Dues.row(x, 0, 2, 1, 200);
    dues.due("not within 400: by one break alone", x.through(0, 0, 1), 201);
    dues.due("within", x.through(0, 0, 2), 400);
    Dues.row(x, 0, 2, 1, 201);
    dues.due("not within 400", x.through(0, 0, 2), -1);
    dues.due("NONE is no refusal", x.status(11), 0);
    dues.refused(x, "no COUNTER", () -> x.through(1, 8, -1), -11);
    dues.refused(x, "no SHELF", () -> x.through(0, 8, -1), -11);
    dues.refused(x, "a COUNTER", () -> x.through(0, 1, -1), -12);
    dues.refused(x, "NOTHING", () -> x.through(0, 2, -1), -13);
    dues.refused(x, "n below 0", () -> x.through(0, 0, -1), -14);
    dues.refused(x, "fewer elements", () -> x.through(0, 3, 42), -15);
    dues.refused(x, "n above 40", () -> x.through(0, 3, 41), -16);
    dues.refused(x, "not ascending", () -> x.through(0, 3, 1), -16);
  }

  private static void chances() {
    WhatDidYouSay x = with(0, 0, 18, 20);
    int[] plain = {0, 0, 810000};
    for (int t = 0; t < 3; t++) dues.due("chance", x.chance(0, t), plain[t]);
    x.ask(2, 333);
    // 1000000 in 18: 333000 go to 0, 667000 to 19; of these 222111 (cut) break.
    dues.due("cut", x.chance(0, 2), 444889);
    x.ask(2, 0);
    dues.due("no break", x.chance(0, 2), 1000000);
    x.ask(2, 1000);
    dues.due("breaks alone", x.chance(0, 400), 0);
    x.put(0, 20);
    dues.due("it is through", x.chance(0, 0), 1000000);
    // STUBBORN of a 1, HEARD 1: the next break counts, the one after it doesn't.
    WhatDidYouSay y = with(4, 1, 1, 2);
    y.ask(2, 500);
    y.asks(0);
    int[] some = {0, 500000, 500000, 625000, 750000};
    for (int t = 0; t < 5; t++) dues.due("STUBBORN", y.chance(0, t), some[t]);
    dues.refused(x, "no COUNTER", () -> x.chance(1, -1), -1);
    dues.refused(x, "t", () -> x.chance(0, -1), -6);
    dues.refused(x, "t", () -> x.chance(0, 401), -6);
    dues.due("400", x.chance(0, 400), 1000000);
  }

  private static void medians() {
    WhatDidYouSay x = with(2, 0, 18, 20);
    dues.due("c 1", x.median(0, 1), 2);
    dues.due("c as just told", x.median(0, 810000), 2);
    dues.due("one more", x.median(0, 810001), 3);
    x.ask(2, 1000);
    dues.due("never", x.median(0, 1), -1);
    x.put(0, 20);
    dues.due("it is through", x.median(0, 1000000), 0);
    dues.refused(x, "no COUNTER", () -> x.median(1, 0), -11);
    dues.refused(x, "c", () -> x.median(0, 0), -16);
    dues.refused(x, "c", () -> x.median(0, 1000001), -16);
    WhatDidYouSay y = with(2, 0, 0, 200);
    y.ask(2, 0);
    dues.due("200", y.median(0, 1000000), 200);
    y.ask(2, 999);
    dues.due("a part alone never breaks: its break is cut", y.median(0, 1), 200);
    dues.due("not within 400", y.median(0, 1000000), -1);
  }

  private static void bestAparts() {
    WhatDidYouSay x = with(1, 0, 0, 20);
    x.ask(2, 0);
    dues.due("one MARK is enough: the least such APART", x.bestApart(0, 1000000), 11);
    x.ask(3, 0);
    dues.due("no COST: of all alike the least", x.bestApart(0, 1000000), 1);
    x.ask(3, 99);
    x.put(0, 20);
    dues.due("it is through", x.bestApart(0, 1), 11);
    x.put(0, 0);
    x.ask(2, 1000);
    dues.due("none comes to it", x.bestApart(0, 1), -1);
    dues.due("APART stays", x.status(3), 5);
    dues.refused(x, "no COUNTER", () -> x.bestApart(1, 0), -11);
    dues.refused(x, "c", () -> x.bestApart(0, 0), -16);
    dues.refused(x, "c", () -> x.bestApart(0, 1000001), -16);
    for (int kind = 0; kind < 7; kind++) {
      WhatDidYouSay y = with(kind, 0, 0, 1);
      if (kind == 1 || kind == 5) dues.due("N 1", y.bestApart(0, 1), 1);
      else dues.refused(y, "KIND " + kind, () -> y.bestApart(0, 0), -12);
    }
  }

  private static void whens() {
    // AT 3, N 12, APART 5: WHEN and WORST in 4, 8, 9, 10, 100 SECONDS.
    int[][] rows = {
        {0, 0, 1, 1, 1, 10, 100, 4, 8, 9, 9, 9},
        {1, 0, 3, 8, 8, 10, 100, 2, 2, 2, 2, 2},
        {2, 0, 4, 8, 9, 10, 100, 1, 1, 1, 1, 1},
        {3, 1, 4, 7, 7, 10, 100, 3, 3, 3, 3, 3},
        {4, 0, 1, 1, 1, 10, 100, 4, 8, 9, 9, 9},
        {4, 1, 4, 8, 9, 10, 100, 1, 1, 1, 1, 1},
        {5, 2, 4, 8, 9, 10, 100, 2, 2, 2, 2, 2}};
    int[] within = {4, 8, 9, 10, 100};
    for (int[] row : rows) {
      WhatDidYouSay x = with(row[0], row[1], 3, 12);
      for (int i = 0; i < 10; i++) {
        dues.due("when of KIND " + row[0] + "/" + row[1] + " in " + within[i % 5] + ", " + i / 5, x.when(0, within[i % 5], i / 5), row[2 + i]);
      }
    }
    WhatDidYouSay x = with(0, 0, 0, 20);
    dues.refused(x, "no COUNTER", () -> x.when(1, 0, 2), -1);
    dues.refused(x, "another what", () -> x.when(0, 0, 2), -5);
    dues.refused(x, "another what", () -> x.when(0, 1, -1), -5);
    dues.refused(x, "t", () -> x.when(0, 0, 0), -6);
    dues.refused(x, "t", () -> x.when(0, 101, 0), -6);
    x.put(0, 20);
    dues.refused(x, "it is through", () -> x.when(0, 1, 0), -6);
    dues.refused(x, "another what ahead of that", () -> x.when(0, 1, 2), -5);
  }

  private static void longest() {
    int[][] rows = {{0, 0, 10, 20, 30, 60}, {1, 0, 10, 15, 20, 35}, {2, 0, 10, 11, 12, 15}, {3, 0, 10, 12, 14, 20}, {4, 0, 10, 20, 30, 60},
        {4, 1, 10, 11, 21, 33}, {5, 2, 10, 15, 20, 35}, {5, 9, 10, 11, 12, 15}, {6, 0, 10, 16, 22, 40}, {6, 1, 10, 11, 17, 25}};
    int[] by = {0, 1, 2, 5};
    for (int[] row : rows) {
      WhatDidYouSay x = with(row[0], row[1], 0, 10);
      for (int i = 0; i < 4; i++) dues.due("longest of KIND " + row[0] + "/" + row[1] + " by " + by[i], x.longest(0, by[i]), row[2 + i]);
    }
    WhatDidYouSay x = with(0, 0, 0, 80);
    dues.due("just 400", x.longest(0, 4), 400);
    dues.due("not within 400", x.longest(0, 5), -1);
    x.put(0, 80);
    dues.due("it is through", x.longest(0, 5), 0);
    dues.refused(x, "no COUNTER", () -> x.longest(-1, -1), -11);
    dues.refused(x, "b", () -> x.longest(0, -1), -16);
    dues.refused(x, "b", () -> x.longest(0, 6), -16);
  }

  private static void fits() {
    WhatDidYouSay x = with(2, 0, 4, 10);
    int[] want = {-1, -1, -1, -1, -1, -1, 0, 1, 2, 3, 4, 5, 6, 7, 8, -1, -1};
    for (int t = 0; t < want.length; t++) dues.due("fits " + t, x.fits(0, t), want[t]);
    WhatDidYouSay y = with(0, 0, 0, 10);
    // By one break 11 to 20; by eight 90 at most.
    int[][] some = {{9, -1}, {10, 0}, {11, 1}, {20, 1}, {21, 2}, {30, 2}, {31, 3}, {90, 8}, {91, -1}, {100, -1}};
    for (int[] row : some) dues.due("fits " + row[0], y.fits(0, row[0]), row[1]);
    y.put(0, 10);
    dues.due("it is through", y.fits(0, 0), 0);
    dues.due("it was through by then", y.fits(0, 1), -1);
    dues.refused(x, "no COUNTER", () -> x.fits(1, -1), -11);
    dues.refused(x, "t", () -> x.fits(0, -1), -16);
    dues.refused(x, "t", () -> x.fits(0, 101), -16);
    // STUBBORN of a 2 who has HEARD 2: the first break counts.
    WhatDidYouSay z = with(4, 2, 0, 10);
    z.asks(0);
    z.asks(0);
    z.put(0, 5);
    int[][] heard = {{5, 0}, {6, 2}, {11, 1}, {12, 1}, {15, 1}, {16, 2}, {10, -1}};
    for (int[] row : heard) {
      if (row[0] == 6 || row[0] == 10) dues.due("fits " + row[0], z.fits(0, row[0]), -1);
      else dues.due("fits " + row[0], z.fits(0, row[0]), row[1]);
    }
  }

  private static void quickest() {
    WhatDidYouSay x = new WhatDidYouSay();
    x.row(1, 2, 41);
    Dues.row(x, 0, 2, 4, 9);
    dues.due("no COUNTERS", x.quickest(0, 2), -1);
    dues.due("that is no refusal", x.status(15), 0);
    x.counter(0, 0);
    x.counter(1, 0);
    x.counter(2, 0);
    x.counter(2, 5);
    dues.due("the first of two", x.quickest(0, 2), 2);
    dues.due("no break: the first of all", x.quickest(0, 0), 0);
    x.put(1, 8);
    dues.due("the one ahead", x.quickest(0, 2), 1);
    x.put(3, 20);
    dues.due("who is through", x.quickest(0, 2), 3);
    WhatDidYouSay y = with(0, 0, 0, 200);
    Dues.row(y, 0, 2, 1, 201);
    dues.due("none within 400", y.quickest(0, 2), -1);
    Dues.row(y, 0, 2, 200);
    dues.due("400", y.quickest(0, 1), 0);
    x.show(2, 0);
    dues.refused(x, "no SHELF", () -> x.quickest(8, -1), -11);
    dues.refused(x, "a COUNTER", () -> x.quickest(2, -1), -12);
    dues.refused(x, "NOTHING", () -> x.quickest(3, -1), -13);
    dues.refused(x, "n below 0", () -> x.quickest(0, -1), -14);
    dues.refused(x, "fewer elements", () -> x.quickest(1, 42), -15);
    dues.refused(x, "n above 40", () -> x.quickest(1, 41), -16);
    dues.refused(x, "not from 1 on", () -> x.quickest(1, 1), -16);
  }

  private static void surest() {
    WhatDidYouSay x = new WhatDidYouSay();
    dues.refused(x, "no COUNTERS", () -> x.surest(-1), -5);
    x.counter(0, 0);
    x.counter(1, 0);
    x.counter(2, 0);
    x.counter(2, 3);
    dues.due("all 0: the first", x.surest(19), 0);
    dues.due("all alike", x.surest(20), 0);
    dues.due("the first of two", x.surest(21), 2);
    x.put(1, 1);
    dues.due("the one ahead", x.surest(19), 1);
    dues.due("400", x.surest(400), 1);
    dues.refused(x, "t", () -> x.surest(-1), -6);
    dues.refused(x, "t", () -> x.surest(401), -6);
  }

  private static void parted() {
    WhatDidYouSay x = new WhatDidYouSay();
    x.counter(2, 0);
    x.counter(2, 1);
    x.counter(0, 0);
    Dues.row(x, 0, 2, 5);
    Dues.row(x, 1, 2, 9);
    x.row(2, 2, 0);
    dues.due("OFF from the break on: AT 4 ahead of it", x.parted(0, 1, 0, 0, 1), 5);
    dues.due("of those that 4 divides", x.parted(0, 1, 0, 0, 4), 8);
    dues.due("the later break", x.parted(0, 2, 1, 2, 1), 9);
    dues.due("OFF alike", x.parted(0, 2, 2, 2, 1), -1);
    dues.due("m above N", x.parted(0, 1, 0, 0, 200), -1);
    dues.due("just N", x.parted(0, 1, 0, 0, 20), 20);
    dues.due("COUNTER by breaks: first AT it", x.parted(2, 0, 0, 2, 1), -1);
    x.put(0, 7);
    dues.due("never AT 1", x.parted(0, 2, 0, 0, 1), 1);
    x.put(2, 7);
    dues.due("one begins again and comes there", x.parted(0, 2, 2, 0, 1), 1);
    dues.due("both never", x.parted(0, 2, 2, 2, 1), -1);
    dues.due("OFF, now", x.asks(0), 7);
    dues.due("now counts", x.parted(0, 2, 2, 2, 7), 7);
    dues.due("none ahead of now", x.parted(0, 2, 2, 2, 1), 7);
    x.put(0, 20);
    x.put(2, 20);
    dues.due("both through", x.parted(0, 2, 2, 2, 1), 20);
    // Not within 400 SECONDS: 40 breaks of one who begins again keep it below 160.
    WhatDidYouSay y = with(0, 0, 0, 200);
    y.counter(1, 0);
    x.row(0, 2, 0);
    Dues.row(y, 0, 2, 100, 200, 300);
    y.row(1, 2, 0);
    dues.due("one never comes there", y.parted(0, 1, 0, 1, 1), 101);
    dues.due("nor there", y.parted(1, 0, 1, 0, 60), 120);
    Dues.row(y, 0, 2, 1, 200);
    dues.due("within 400", y.parted(0, 1, 0, 1, 1), -1);
    Dues.row(y, 0, 2, 1, 201);
    dues.due("199 within 400, not 200", y.parted(0, 1, 0, 1, 1), 200);
  }

  private static void partedRefused() {
    WhatDidYouSay x = new WhatDidYouSay();
    x.counter(0, 0);
    x.counter(1, 0);
    x.row(0, 2, 0);
    x.row(1, 2, 41);
    for (int i = 0; i < 41; i++) x.set(1, i, i + 1);
    Dues.row(x, 2, 0, 2, 2);
    x.show(3, 0);
    dues.refused(x, "no COUNTER", () -> x.parted(2, 1, 3, 4, 0), -11);
    dues.refused(x, "no COUNTER", () -> x.parted(0, -1, 3, 4, 0), -11);
    dues.refused(x, "no SHELF", () -> x.parted(0, 1, 8, 3, 0), -11);
    dues.refused(x, "no SHELF", () -> x.parted(0, 1, 4, -1, 0), -11);
    dues.refused(x, "a COUNTER", () -> x.parted(0, 0, 3, 4, 0), -12);
    dues.refused(x, "a COUNTER", () -> x.parted(0, 0, 4, 3, 0), -12);
    dues.refused(x, "NOTHING", () -> x.parted(0, 0, 4, 0, 0), -13);
    dues.refused(x, "NOTHING", () -> x.parted(0, 0, 0, 4, 0), -13);
    dues.refused(x, "the same COUNTER", () -> x.parted(1, 1, 0, 0, 1), -16);
    dues.refused(x, "m", () -> x.parted(0, 1, 0, 0, 0), -16);
    dues.refused(x, "m", () -> x.parted(0, 1, 0, 0, 201), -16);
    dues.refused(x, "more than 40", () -> x.parted(0, 1, 1, 0, 1), -16);
    dues.refused(x, "more than 40", () -> x.parted(0, 1, 0, 1, 1), -16);
    dues.refused(x, "not ascending", () -> x.parted(0, 1, 2, 0, 1), -16);
    dues.refused(x, "not ascending", () -> x.parted(0, 1, 0, 2, 1), -16);
    dues.due("two SORTS may be", x.parted(0, 1, 0, 0, 200), -1);
    x.row(2, 0, 0);
    dues.due("two SORTS may be", x.parted(0, 1, 0, 2, 200), -1);
  }
}
