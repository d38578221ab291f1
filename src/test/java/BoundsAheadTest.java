/** The bounds of what comes of it ("Terms", 3.) and of promises 16 to 23 and 26 to 28, sentence by sentence. */
public final class BoundsAheadTest {
  private static final Dues dues = new Dues();

  public static void main(String[] args) {
    nothingIsChanged();
    toldSeconds();
    behind();
    through();
    chance();
    cut();
    byHeard();
    median();
    bestApart();
    when();
    longest();
    fits();
    quickest();
    surest();
    parted();
    partedNever();
    dues.end();
  }

  private static void nothingIsChanged() {
    dues.sentence(0, "(nothing is changed; from how a COUNTER stands, unless told otherwise)");
    for (int kind = 0; kind < 7; kind++) {
      WhatDidYouSay x = Dues.with(kind, 1, 7, 20);
      x.asks(0);
      x.counter(1, 0);
      Dues.seconds(x, 0, 3);
      java.util.List<Integer> before = Dues.all(x);
      x.back(0);
      for (int what = 0; what < 3; what++) x.run(0, 0, 3, 9, what);
      x.through(0, 0, 3);
      x.chance(0, 30);
      x.median(0, 5000);
      x.bestApart(1, 5000);
      x.when(0, 9, 1);
      x.longest(0, 5);
      x.fits(0, 50);
      x.judge(0, 0, 3);
      x.breaks(0, 0, 0);
      x.quickest(0, 3);
      x.surest(30);
      x.parted(0, 1, 0, 0, 1);
      dues.due("all of KIND " + kind + " stays", Dues.all(x).equals(before) ? 1 : 0, 1);
    }
  }

  private static void toldSeconds() {
    dues.sentence(0, "A RUN by told SECONDS: a ROW, each element a SECOND (1 on) in which there is a break, ascending;");
    WhatDidYouSay x = Dues.with(2, 0, 0, 200);
    Dues.row(x, 0, 2, 0);
    dues.refused(x, "SECOND 0", () -> x.run(0, 0, 1, 1, 0), -6);
    x.set(0, 0, -1);
    dues.refused(x, "SECOND -1", () -> x.run(0, 0, 1, 1, 0), -6);
    x.set(0, 0, 1);
    dues.due("SECOND 1", x.run(0, 0, 1, 1, 2), 1);
    Dues.row(x, 0, 2, 3, 4, 4, 3);
    dues.due("one more", x.run(0, 0, 2, 400, 2), 2);
    dues.refused(x, "the same", () -> x.run(0, 0, 3, 400, 2), -6);
    Dues.row(x, 0, 2, 4, 3);
    dues.refused(x, "one less", () -> x.run(0, 0, 2, 400, 2), -6);
    dues.due("what is behind n is not told", x.run(0, 0, 1, 400, 2), 1);
    Dues.row(x, 0, 2, 400, 401, Integer.MAX_VALUE);
    WhatDidYouSay y = Dues.with(4, 9, 0, 200);
    Dues.row(y, 0, 2, 200, 400, 401, Integer.MAX_VALUE);
    y.asks(0);
    for (int i = 0; i < 8; i++) y.asks(0);
    dues.due("a break in SECOND 400 of one who began again in 200", y.run(0, 0, 4, 400, 2), 11);
    dues.due("AT ahead of it", y.run(0, 0, 4, 399, 0), 199);
    dues.due("not yet in 399", y.run(0, 0, 4, 399, 2), 10);
    dues.due("SECONDS above 400 never come", x.run(0, 0, 3, 400, 2), 0);
    dues.sentence(16, "A RUN by the first n elements (0 to 40) of the ROW in SHELF s behind t SECONDS: AT (what 0), OFF (1), HEARD (2).");
    WhatDidYouSay z = Dues.with(2, 1, 0, 200);
    Dues.seconds(z, 0, 41);
    dues.due("none of them", z.run(0, 0, 0, 50, 0), 50);
    dues.due("40: AT", z.run(0, 0, 40, 50, 0), 10);
    dues.due("40: OFF", z.run(0, 0, 40, 50, 1), 80);
    dues.due("40: HEARD", z.run(0, 0, 40, 50, 2), 40);
    dues.refused(z, "41", () -> z.run(0, 0, 41, 50, 2), -6);
    dues.refused(z, "42 of 41", () -> z.run(0, 0, 42, 50, 2), -5);
    dues.refused(z, "what -1", () -> z.run(0, 0, 40, 50, -1), -5);
    dues.refused(z, "what 3", () -> z.run(0, 0, 40, 50, 3), -5);
    z.row(1, 0, 0);
    dues.due("a ROW of none", z.run(0, 1, 0, 50, 0), 50);
    dues.refused(z, "one of none", () -> z.run(0, 1, 1, 50, 0), -5);
  }

  private static void behind() {
    dues.sentence(0, "behind t SECONDS (0 to 400): AT, OFF, HEARD.");
    WhatDidYouSay x = Dues.with(0, 0, 5, 200);
    Dues.row(x, 0, 2, 1, 201);
    dues.due("behind none: AT", x.run(0, 0, 2, 0, 0), 5);
    dues.due("behind none: HEARD", x.run(0, 0, 2, 0, 2), 0);
    dues.due("behind one: AT", x.run(0, 0, 2, 1, 0), 0);
    dues.due("behind one: HEARD", x.run(0, 0, 2, 1, 2), 1);
    dues.due("behind 400", x.run(0, 0, 2, 400, 0), 199);
    dues.refused(x, "-1", () -> x.run(0, 0, 2, -1, 0), -6);
    dues.refused(x, "401", () -> x.run(0, 0, 2, 401, 0), -6);
    x.asks(0);
    dues.due("HEARD from how it stands", x.run(0, 0, 2, 400, 2), 3);
  }

  private static void through() {
    dues.sentence(0, "THROUGH: the SECOND behind which it is AT N; NONE: not within 400 (0: it is).");
    WhatDidYouSay x = Dues.with(0, 0, 20, 20);
    Dues.row(x, 0, 2, 1, 2);
    dues.due("it is", x.through(0, 0, 2), 0);
    x.put(0, 19);
    dues.due("one SECOND", x.through(0, 0, 0), 1);
    x.ask(0, 200);
    x.put(0, 0);
    Dues.row(x, 0, 2, 1, 200);
    dues.due("400", x.through(0, 0, 2), 400);
    Dues.row(x, 0, 2, 1, 201);
    dues.due("401", x.through(0, 0, 2), -1);
    Dues.row(x, 0, 2, 199, 398);
    dues.due("more", x.through(0, 0, 2), -1);
    dues.nothingRefused(x);
    x.ask(0, 1);
    Dues.seconds(x, 1, 41);
    dues.sentence(17, "THROUGH by these; NONE.");
    dues.due("N 1 by 40 breaks", x.through(0, 1, 40), 41);
    dues.refused(x, "41", () -> x.through(0, 1, 41), -16);
    dues.due("N 1 by none", x.through(0, 1, 0), 1);
  }

  private static void chance() {
    dues.sentence(0, "CHANCE behind t SECONDS (0 to 400): of 1,000,000 parts at how it stands");
    WhatDidYouSay x = Dues.with(2, 0, 19, 20);
    dues.due("behind 0", x.chance(0, 0), 0);
    dues.due("behind 1", x.chance(0, 1), 900000);
    dues.due("behind 400", x.chance(0, 400), 1000000);
    dues.refused(x, "-1", () -> x.chance(0, -1), -6);
    dues.refused(x, "401", () -> x.chance(0, 401), -6);
    x.put(0, 20);
    dues.due("through behind 0", x.chance(0, 0), 1000000);
    dues.due("through behind 400", x.chance(0, 400), 1000000);
    WhatDidYouSay y = Dues.with(0, 0, 0, 200);
    y.ask(2, 0);
    dues.due("no ODDS: 199 of 200", y.chance(0, 199), 0);
    dues.due("200 of 200", y.chance(0, 200), 1000000);
    y.ask(2, 1000);
    dues.due("all ODDS: none comes on", y.chance(0, 400), 0);
    dues.sentence(18, "CHANCE. -1; -6.");
    y.put(0, 199);
    y.ask(2, 999);
    dues.due("999", y.chance(0, 1), 1000);
    y.ask(2, 1);
    dues.due("1", y.chance(0, 1), 999000);
  }

  private static void cut() {
    dues.sentence(0, "ODDS by 1000 (cut) go as by a break, the others 1 on: parts at N.");
    WhatDidYouSay x = Dues.with(0, 0, 0, 1);
    x.ask(2, 1);
    int[] want = {0, 999000, 999999, 1000000, 1000000};
    for (int t = 0; t < want.length; t++) dues.due("1000, then 1, then none of 1: " + t, x.chance(0, t), want[t]);
    x.ask(2, 999);
    dues.due("999000 of all, 998001 of those", x.chance(0, 2), 1999);
    dues.due("997002 (cut) of those", x.chance(0, 3), 2998);
    dues.due("996004 (cut) of those", x.chance(0, 4), 3996);
    // Of AT 1 and AT 0, each cut by itself: 333000 and 667000; then 222111 of 667000, 110889 of 333000.
    WhatDidYouSay y = Dues.with(0, 0, 0, 3);
    y.ask(2, 333);
    dues.due("none yet", y.chance(0, 2), 0);
    // AT 2: 444889, of these 148148 (cut) break.
    dues.due("AT 3", y.chance(0, 3), 296741);
    // Parts of one AT are together, by however many breaks they came there.
    int[] later = {395557, 494373, 593189, 662682, 722410};
    for (int t = 4; t <= 8; t++) dues.due("AT 3 behind " + t, y.chance(0, t), later[t - 4]);
  }

  private static void byHeard() {
    dues.sentence(0, "each SECOND of all parts at AT (and HEARD modulo a and 1 for STUBBORN, DEAF) but N");
    // AT 1 of 2: who listens to the next break goes back to 0 by it.
    int[][] rows = {{9, 9, 500000, 500000}, {9, 19, 500000, 500000}, {9, 8, 500000, 750000}, {9, 10, 500000, 750000}, {0, 0, 500000, 500000},
        {0, 1, 500000, 500000}, {1, 1, 500000, 500000}, {1, 0, 500000, 750000}, {1, 2, 500000, 750000}, {2, 2, 500000, 500000}, {2, 11, 500000, 500000}, {2, 10, 500000, 750000},
        {2, 9, 500000, 750000}};
    for (int[] row : rows) {
      WhatDidYouSay x = Dues.with(4, row[0], 0, 2);
      for (int i = 0; i < row[1]; i++) x.asks(0);
      x.put(0, 1);
      x.ask(2, 500);
      for (int t = 1; t <= 2; t++) dues.due("STUBBORN of " + row[0] + ", HEARD " + row[1] + ", " + t, x.chance(0, t), row[1 + t]);
    }
    // DEAF, a 1, HEARD 1, AT 3 of 4: to 1 by the first break; then none by the second.
    WhatDidYouSay y = Dues.with(6, 1, 0, 4);
    y.asks(0);
    y.put(0, 3);
    y.ask(2, 500);
    int[] want = {0, 500000, 500000, 500000, 562500};
    for (int t = 0; t < want.length; t++) dues.due("DEAF " + t, y.chance(0, t), want[t]);
    // The greatest N: a part alone isn't broken (cut), so that some come there; reckoned apart from this class.
    int[][] far = {{4, 1, 900, 400, 399}, {4, 9, 900, 400, 1875}, {6, 9, 500, 400, 1875}, {6, 1, 600, 300, 199}, {6, 0, 700, 400, 201}};
    for (int[] row : far) {
      WhatDidYouSay x = Dues.with(row[0], row[1], 0, 200);
      x.ask(2, row[2]);
      dues.due("KIND " + row[0] + " of " + row[1] + " with N 200", x.chance(0, row[3]), row[4]);
    }
    // A COUNTER of the same a is not looked at so: its parts AT 0 are all together.
    WhatDidYouSay z = Dues.with(2, 9, 0, 1);
    z.ask(2, 1);
    dues.due("SLIPPER", z.chance(0, 3), 1000000);
  }

  private static void median() {
    dues.sentence(0, "MEDIAN for c (1 to 1,000,000): the fewest SECONDS (400 at most) behind which CHANCE is c at least; NONE.");
    WhatDidYouSay x = Dues.with(0, 0, 0, 1);
    x.ask(2, 1);
    int[][] rows = {{1, 1}, {999000, 1}, {999001, 2}, {999999, 2}, {1000000, 3}};
    for (int[] row : rows) dues.due("c " + row[0], x.median(0, row[0]), row[1]);
    dues.refused(x, "c 0", () -> x.median(0, 0), -16);
    dues.refused(x, "c 1000001", () -> x.median(0, 1000001), -16);
    x.put(0, 1);
    dues.due("through, c 1", x.median(0, 1), 0);
    dues.due("through, c 1000000", x.median(0, 1000000), 0);
    // What 400 SECONDS tell and 399 don't is there behind 400; what they don't tell is NONE.
    for (int kind = 0; kind < 7; kind++) {
      WhatDidYouSay y = Dues.with(kind, 1, 0, 20);
      y.ask(2, kind == 0 ? 200 : kind == 2 || kind == 4 ? 952 : 600);
      if (kind == 6) y.ask(2, 700);
      int most = y.chance(0, 400);
      dues.due("some of KIND " + kind + " in the last SECOND", most > y.chance(0, 399) && most < 1000000 ? 1 : 0, 1);
      dues.due("400 of KIND " + kind, y.median(0, most), 400);
      dues.due("NONE of KIND " + kind, y.median(0, most + 1), -1);
      dues.nothingRefused(y);
    }
    dues.sentence(19, "MEDIAN; NONE. -11; -16 (counted as -1, -6).");
    WhatDidYouSay z = Dues.with(0, 0, 0, 200);
    z.ask(2, 1000);
    dues.due("NONE", z.median(0, 1), -1);
    z.ask(2, 0);
    dues.due("200", z.median(0, 1000000), 200);
  }

  private static void bestApart() {
    dues.sentence(0, "BEST APART of a MARKER or LOUD one for c: the APART (1 to N) with the least sum of MEDIAN for c and COST for each MARK from 1 to N, of several the least; NONE: none comes to it.");
    // Without breaks the MARKS alone count: the least APART that has but one up to N, N itself counted.
    int[][] rows = {{1, 1}, {2, 2}, {3, 2}, {4, 3}, {20, 11}, {199, 100}, {200, 101}};
    for (int kind : new int[] {1, 5}) {
      for (int[] row : rows) {
        WhatDidYouSay x = Dues.with(kind, 0, 0, row[0]);
        x.ask(2, 0);
        dues.due("N " + row[0], x.bestApart(0, 1000000), row[1]);
        x.ask(3, 99);
        dues.due("N " + row[0] + ", COST 99", x.bestApart(0, 1), row[1]);
        x.ask(3, 0);
        dues.due("N " + row[0] + ", no COST", x.bestApart(0, 1), 1);
        dues.due("APART stays", x.status(3), 5);
      }
      WhatDidYouSay y = Dues.with(kind, 9, 0, 20);
      y.ask(2, 1000);
      dues.due("none comes to it", y.bestApart(0, 1), -1);
      y.put(0, 20);
      dues.due("through", y.bestApart(0, 1000000), 11);
      dues.refused(y, "c 0", () -> y.bestApart(0, 0), -16);
      dues.refused(y, "c 1000001", () -> y.bestApart(0, 1000001), -16);
    }
    // AT 19 of 20, half by a break: MEDIAN 2 where 19 is a MARK (1, 19), 1 + 20 at least else; COST tells which.
    WhatDidYouSay z = Dues.with(1, 0, 19, 20);
    z.ask(2, 500);
    z.ask(3, 0);
    dues.due("no COST: of several the least", z.bestApart(0, 750000), 1);
    z.ask(3, 1);
    dues.due("one MARK just there", z.bestApart(0, 750000), 19);
    dues.due("half needs none", z.bestApart(0, 500000), 11);
    // LOUD, a 1: AT 19 stays if 18 or 19 is the last MARK; of 1, 2, 3, 6, 9, 18, 19 these have one MARK: 18, 19.
    WhatDidYouSay loud = Dues.with(5, 1, 19, 20);
    loud.ask(2, 500);
    dues.due("LOUD", loud.bestApart(0, 750000), 18);
    dues.sentence(20, "-12 another KIND");
    for (int kind : new int[] {0, 2, 3, 4, 6}) {
      WhatDidYouSay other = Dues.with(kind, 0, 0, 20);
      dues.refused(other, "KIND " + kind, () -> other.bestApart(0, 1), -12);
    }
  }

  private static void when() {
    dues.sentence(0, "WHEN: the SECOND (1 to t) in which a single break makes THROUGH least, of several the last; WORST: most, of several the first.");
    // AT 8 of 12, APART 5: a MARKER loses 3, 4, 0, 1 by a break in SECOND 1, 2, 3, 4.
    WhatDidYouSay x = Dues.with(1, 0, 8, 12);
    int[] least = {1, 1, 3, 3, 5, 6};
    int[] most = {1, 2, 2, 2, 2, 2};
    for (int t = 1; t <= 6; t++) {
      dues.due("WHEN in " + t, x.when(0, t, 0), least[t - 1]);
      dues.due("WORST in " + t, x.when(0, t, 1), most[t - 1]);
    }
    dues.due("WHEN in 100", x.when(0, 100, 0), 100);
    dues.due("WORST in 100", x.when(0, 100, 1), 2);
    WhatDidYouSay slipper = Dues.with(2, 0, 0, 200);
    dues.due("all alike: the last", slipper.when(0, 100, 0), 100);
    dues.due("all alike: the first", slipper.when(0, 100, 1), 1);
    WhatDidYouSay counter = Dues.with(0, 0, 0, 200);
    dues.due("the first is least", counter.when(0, 100, 0), 1);
    dues.due("the last is most", counter.when(0, 100, 1), 100);
    dues.sentence(0, "(Breaks behind THROUGH count for nothing.)");
    WhatDidYouSay y = Dues.with(0, 0, 18, 20);
    int[] best = {1, 1, 3, 4};
    int[] worst = {1, 2, 2, 2};
    for (int t = 1; t <= 4; t++) {
      dues.due("AT 18: WHEN in " + t, y.when(0, t, 0), best[t - 1]);
      dues.due("AT 18: WORST in " + t, y.when(0, t, 1), worst[t - 1]);
    }
    dues.sentence(21, "WHEN (what 0), WORST (1), in t SECONDS (1 to 100). -1; -5 another what; -6 t, it is through.");
    dues.refused(y, "t 0", () -> y.when(0, 0, 0), -6);
    dues.refused(y, "t 101", () -> y.when(0, 101, 0), -6);
    dues.refused(y, "what -1", () -> y.when(0, 1, -1), -5);
    dues.refused(y, "what 2", () -> y.when(0, 1, 2), -5);
    y.put(0, 20);
    dues.refused(y, "through", () -> y.when(0, 1, 1), -6);
    // AT a MARK: nothing is lost by a break in SECOND 1, 1 by one in 2.
    WhatDidYouSay mark = Dues.with(1, 0, 10, 12);
    dues.due("AT a MARK", mark.when(0, 2, 0), 1);
    dues.due("AT a MARK, WORST", mark.when(0, 2, 1), 2);
    // STUBBORN of a 2: the third break that it hears counts.
    WhatDidYouSay third = Dues.with(4, 2, 0, 20);
    int[] worstByHeard = {1, 1, 9, 1};
    for (int heard = 0; heard < 4; heard++) {
      dues.due("HEARD " + heard, third.when(0, 9, 1), worstByHeard[heard]);
      third.asks(0);
    }
    // STUBBORN of a 1: the single break is the second that it hears.
    WhatDidYouSay z = Dues.with(4, 1, 0, 20);
    dues.due("the first break", z.when(0, 9, 1), 1);
    z.asks(0);
    dues.due("the second break", z.when(0, 9, 1), 9);
  }

  private static void longest() {
    dues.sentence(0, "LONGEST by b breaks (0 to 5): the greatest THROUGH by b breaks at most, whenever they come, if they come before it is through.");
    WhatDidYouSay x = Dues.with(0, 0, 3, 10);
    int[] want = {7, 17, 27, 37, 47, 57};
    for (int b = 0; b <= 5; b++) dues.due("COUNTER by " + b, x.longest(0, b), want[b]);
    dues.refused(x, "-1", () -> x.longest(0, -1), -16);
    dues.refused(x, "6", () -> x.longest(0, 6), -16);
    x.put(0, 10);
    for (int b = 0; b <= 5; b++) dues.due("through by " + b, x.longest(0, b), 0);
    WhatDidYouSay stubborn = Dues.with(4, 5, 0, 10);
    dues.due("STUBBORN of a 5 by 5: none counts", stubborn.longest(0, 5), 15);
    stubborn.asks(0);
    dues.due("the fifth counts", stubborn.longest(0, 5), 24);
    dues.due("4 at most", stubborn.longest(0, 4), 14);
    dues.sentence(22, "LONGEST; NONE: not through within 400 then. -11; -16 (counted as -1, -6).");
    WhatDidYouSay y = Dues.with(0, 0, 0, 200);
    dues.due("200", y.longest(0, 0), 200);
    dues.due("400", y.longest(0, 1), 400);
    dues.due("600", y.longest(0, 2), -1);
    y.ask(0, 134);
    y.put(0, 2);
    dues.due("132 and 268", y.longest(0, 2), 400);
    y.put(0, 1);
    dues.due("133 and 268", y.longest(0, 2), -1);
    dues.nothingRefused(y);
  }

  private static void fits() {
    dues.sentence(0, "FITS: the fewest breaks (0 to 8) by which THROUGH can be just t; NONE.");
    WhatDidYouSay x = Dues.with(2, 0, 12, 20);
    int[] want = {-1, 0, 1, 2, 3, 4, 5, 6, 7, 8, -1};
    for (int t = 7; t <= 17; t++) dues.due("SLIPPER in " + t, x.fits(0, t), want[t - 7]);
    x.put(0, 20);
    dues.due("through in 0", x.fits(0, 0), 0);
    dues.due("through in 1", x.fits(0, 1), -1);
    x.put(0, 19);
    dues.due("not through in 0", x.fits(0, 0), -1);
    dues.due("in 1", x.fits(0, 1), 0);
    dues.due("in 9", x.fits(0, 9), 8);
    dues.due("in 10", x.fits(0, 10), -1);
    dues.sentence(23, "FITS (t 0 to 100); NONE. -11; -16 (counted as -1, -6).");
    WhatDidYouSay y = Dues.with(0, 0, 0, 20);
    dues.due("100 by four times all", y.fits(0, 100), 4);
    dues.due("81 by four", y.fits(0, 81), 4);
    dues.due("80 by three", y.fits(0, 80), 3);
    dues.refused(y, "-1", () -> y.fits(0, -1), -16);
    dues.refused(y, "101", () -> y.fits(0, 101), -16);
    y.ask(0, 100);
    dues.due("N 100 in 100", y.fits(0, 100), 0);
    y.ask(0, 101);
    dues.due("N 101 in 100", y.fits(0, 100), -1);
    // STUBBORN of a 7: the eighth break alone goes back.
    WhatDidYouSay z = Dues.with(4, 7, 0, 1);
    dues.due("eight breaks AT 0", z.fits(0, 9), 8);
    z.ask(0, 5);
    dues.due("the eighth AT 4", z.fits(0, 17), 8);
    dues.due("no more than 8", z.fits(0, 18), -1);
    // STUBBORN of a 2 who has HEARD 1, AT 4 of 5: the second break that comes goes back.
    WhatDidYouSay heard = Dues.with(4, 2, 0, 5);
    heard.asks(0);
    heard.put(0, 4);
    int[] fewest = {-1, 0, 1, -1, -1, -1, -1, 2, 3};
    for (int t = 0; t < fewest.length; t++) dues.due("HEARD 1 in " + t, heard.fits(0, t), fewest[t]);
  }

  private static void quickest() {
    dues.sentence(0, "QUICKEST: the COUNTER with the least THROUGH by told SECONDS, of several the first.");
    WhatDidYouSay x = new WhatDidYouSay();
    for (int i = 0; i < 6; i++) x.counter(2, 0);
    Dues.seconds(x, 0, 41);
    dues.due("all alike", x.quickest(0, 40), 0);
    x.put(5, 1);
    dues.due("the last", x.quickest(0, 40), 5);
    x.put(2, 1);
    dues.due("the first of two", x.quickest(0, 0), 2);
    x.put(3, 20);
    dues.due("through", x.quickest(0, 40), 3);
    dues.refused(x, "41", () -> x.quickest(0, 41), -16);
    dues.sentence(26, "QUICKEST by the first n elements (0 to 40) of the ROW in SHELF s; NONE: none is through within 400.");
    WhatDidYouSay y = Dues.with(0, 0, 0, 200);
    y.counter(0, 0);
    Dues.row(y, 0, 2, 1, 200);
    dues.due("400", y.quickest(0, 2), 0);
    Dues.row(y, 0, 2, 1, 201);
    dues.due("401", y.quickest(0, 2), -1);
    y.put(1, 1);
    dues.due("the other goes through ahead of 201", y.quickest(0, 0), 1);
    WhatDidYouSay none = new WhatDidYouSay();
    none.row(0, 0, 0);
    dues.due("no COUNTERS", none.quickest(0, 0), -1);
    dues.nothingRefused(none);
  }

  private static void surest() {
    dues.sentence(0, "SUREST behind t: with the greatest CHANCE, of several the first.");
    WhatDidYouSay x = new WhatDidYouSay();
    for (int i = 0; i < 6; i++) x.counter(2, 0);
    dues.due("all 0", x.surest(0), 0);
    dues.due("all alike", x.surest(30), 0);
    x.put(5, 1);
    dues.due("the last", x.surest(30), 5);
    dues.due("none yet: the first", x.surest(18), 0);
    dues.due("it alone", x.surest(19), 5);
    x.put(2, 1);
    dues.due("the first of two", x.surest(19), 2);
    x.put(4, 20);
    dues.due("through behind 0", x.surest(0), 4);
    dues.sentence(27, "SUREST. -5 no COUNTERS; -6 t.");
    dues.due("behind 400 all are through", x.surest(400), 0);
    dues.refused(x, "-1", () -> x.surest(-1), -6);
    dues.refused(x, "401", () -> x.surest(401), -6);
    WhatDidYouSay none = new WhatDidYouSay();
    dues.refused(none, "no COUNTERS", () -> none.surest(0), -5);
  }

  private static void parted() {
    dues.sentence(0, "PARTED: two COUNTERS each by its own told SECONDS (two ROWS): the first number from m on, of those that m divides, at which their AT and OFF together aren't alike when each is first AT it");
    WhatDidYouSay x = new WhatDidYouSay();
    x.counter(2, 0);
    x.counter(2, 1);
    Dues.row(x, 0, 2, 1);
    Dues.row(x, 1, 2, 20);
    x.row(2, 2, 0);
    dues.due("AT 0 is first ahead of the break", x.parted(0, 1, 0, 2, 1), 1);
    dues.due("m 7", x.parted(0, 1, 0, 2, 7), 7);
    dues.due("m 20: just N", x.parted(0, 1, 0, 2, 20), 20);
    dues.due("m 21: none up to N", x.parted(0, 1, 0, 2, 21), -1);
    dues.due("m 200", x.parted(0, 1, 0, 2, 200), -1);
    dues.due("the break AT 19 is behind the first AT 19", x.parted(0, 1, 1, 2, 1), 20);
    dues.due("of those that 19 divides", x.parted(0, 1, 1, 2, 19), -1);
    dues.due("the same ROW: OFF 1 and 2", x.parted(0, 1, 0, 0, 1), 1);
    dues.due("no break", x.parted(0, 1, 2, 2, 1), -1);
    x.ask(0, 200);
    dues.due("m 200 of N 200", x.parted(0, 1, 0, 2, 200), 200);
    dues.refused(x, "m 0", () -> x.parted(0, 1, 0, 2, 0), -16);
    dues.refused(x, "m 201", () -> x.parted(0, 1, 0, 2, 201), -16);
    dues.sentence(28, "PARTED: a COUNTER by the whole ROW in SHELF s, another by that in t, m (1 to 200); NONE.");
    Dues.seconds(x, 3, 40);
    Dues.seconds(x, 4, 41);
    dues.due("40", x.parted(0, 1, 3, 3, 1), 1);
    dues.refused(x, "41 in s", () -> x.parted(0, 1, 4, 3, 1), -16);
    dues.refused(x, "41 in t", () -> x.parted(0, 1, 3, 4, 1), -16);
    dues.refused(x, "the same COUNTER", () -> x.parted(1, 1, 3, 3, 1), -16);
    dues.due("each by its own ROW", x.parted(0, 1, 1, 0, 1), 1);
    Dues.row(x, 5, 2, 3, 5);
    Dues.row(x, 6, 2, 4);
    // 0: OFF 1 from AT 3 on, 2 from AT 4 on; 1: OFF 2 from AT 4 on.
    dues.due("the whole ROW: alike again from 4 on", x.parted(0, 1, 5, 6, 4), -1);
    dues.due("but not AT 3", x.parted(0, 1, 5, 6, 1), 3);
  }

  private static void partedNever() {
    dues.sentence(0, "(now counts; one who is never AT it within 400 SECONDS: not alike, unless both never are); NONE: none up to N.");
    WhatDidYouSay x = new WhatDidYouSay();
    x.counter(0, 0);
    x.counter(0, 0);
    x.row(0, 2, 0);
    x.put(0, 5);
    x.put(1, 5);
    dues.due("both never AT 1 to 4", x.parted(0, 1, 0, 0, 1), -1);
    x.put(1, 6);
    dues.due("one never AT 5", x.parted(0, 1, 0, 0, 1), 5);
    dues.due("nor the other way about", x.parted(1, 0, 0, 0, 1), 5);
    Dues.row(x, 1, 2, 1);
    dues.due("both come there by breaks", x.parted(0, 1, 1, 1, 1), -1);
    WhatDidYouSay slipper = new WhatDidYouSay();
    slipper.counter(2, 0);
    slipper.counter(2, 0);
    slipper.row(0, 2, 0);
    slipper.put(0, 6);
    slipper.asks(0);
    slipper.put(1, 6);
    dues.due("now: OFF 1 and 0", slipper.parted(0, 1, 0, 0, 1), 6);
    // Of who goes back to 0, the first time AT 3 is ahead of the break, with OFF as it was then.
    WhatDidYouSay y = new WhatDidYouSay();
    y.counter(0, 0);
    y.counter(1, 0);
    y.ask(0, 200);
    y.row(0, 2, 0);
    Dues.row(y, 1, 2, 1, 201);
    dues.due("AT 199 in SECOND 200, never AT 200", y.parted(0, 1, 1, 0, 1), 200);
    Dues.row(y, 1, 2, 1, 200);
    dues.due("AT 200 in SECOND 400", y.parted(0, 1, 1, 0, 1), -1);
    Dues.row(y, 1, 2, 1, 3, 202);
    dues.due("AT 198 in SECOND 201, not AT 199 within 400", y.parted(0, 1, 1, 0, 1), 199);
    WhatDidYouSay heaper = new WhatDidYouSay();
    heaper.counter(3, 1);
    heaper.counter(0, 0);
    heaper.row(0, 2, 0);
    Dues.row(heaper, 1, 2, 6);
    dues.due("AT 5 first with OFF 0, AT 6 with OFF 1", heaper.parted(0, 1, 1, 0, 1), 6);
  }
}
