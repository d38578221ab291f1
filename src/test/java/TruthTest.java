/** Promises 32 to 36: SECONDS, breaks and EVENINGS in truth. */
public final class TruthTest {
  private static final Dues dues = new Dues();

  public static void main(String[] args) {
    knits();
    asks();
    again();
    evenings();
    seeds();
    dues.end();
  }

  private static void knits() {
    WhatDidYouSay x = new WhatDidYouSay();
    x.counter(2, 0);
    dues.due("knits", x.knits(0, 1), 1);
    dues.due("knits", x.knits(0, 18), 19);
    dues.due("DONE", x.status(6), 0);
    dues.due("until it is through", x.knits(0, 100), 20);
    dues.due("DONE", x.status(6), 1);
    dues.due("it is through", x.knits(0, 5), 20);
    dues.due("DONE once", x.status(6), 1);
    dues.due("HEARD, OFF", x.counterOf(0, 3) + x.counterOf(0, 4), 0);
    x.ask(0, 21);
    dues.due("on", x.knits(0, 1), 21);
    dues.due("DONE again", x.status(6), 2);
    dues.refused(x, "no COUNTER", () -> x.knits(1, 0), -1);
    dues.refused(x, "no COUNTER", () -> x.knits(-1, 1), -1);
    dues.refused(x, "n", () -> x.knits(0, 0), -6);
    dues.refused(x, "n", () -> x.knits(0, 101), -6);
    dues.refused(x, "n", () -> x.knits(0, -1), -6);
  }

  private static void asks() {
    WhatDidYouSay x = new WhatDidYouSay();
    x.counter(3, 2);
    x.put(0, 11);
    dues.due("asks", x.asks(0), 8);
    dues.due("asks", x.asks(0), 8);
    int[] want = {3, 2, 8, 2, 2};
    for (int what = 0; what < 5; what++) dues.due("counterOf " + what, x.counterOf(0, what), want[what]);
    x.counter(2, 9);
    x.asks(1);
    dues.due("OFF of a SLIPPER", x.counterOf(1, 3), 10);
    x.put(0, 20);
    dues.refused(x, "no COUNTER", () -> x.asks(2), -1);
    dues.refused(x, "no COUNTER", () -> x.asks(-1), -1);
    dues.refused(x, "it is through", () -> x.asks(0), -6);
    dues.due("it heard nothing", x.counterOf(0, 4), 2);
    dues.due("DONE", x.status(6), 0);
  }

  private static void again() {
    WhatDidYouSay x = new WhatDidYouSay();
    x.counter(2, 2);
    x.knits(0, 20);
    dues.due("again", x.again(0), 20);
    x.knits(0, 3);
    x.asks(0);
    dues.due("again", x.again(0), 3);
    int[] want = {2, 2, 0, 0, 0};
    for (int what = 0; what < 5; what++) dues.due("counterOf " + what, x.counterOf(0, what), want[what]);
    dues.due("again", x.again(0), 0);
    dues.due("DONE stays", x.status(6), 1);
    dues.refused(x, "no COUNTER", () -> x.again(1), -1);
    dues.refused(x, "no COUNTER", () -> x.again(-1), -1);
  }

  private static void evenings() {
    WhatDidYouSay x = new WhatDidYouSay();
    dues.refused(x, "no COUNTERS", () -> x.evenings(0), -5);
    x.counter(0, 0);
    x.counter(1, 0);
    dues.refused(x, "n", () -> x.evenings(0), -6);
    dues.refused(x, "n", () -> x.evenings(6), -6);
    dues.due("SEED stays", x.status(7), 1);
    x.ask(2, 0);
    dues.due("no break", x.evenings(5), 10);
    dues.due("DONE", x.status(6), 10);
    // Each of 2 draws 20 times in each of 5 EVENINGS.
    dues.due("SEED", x.status(7), drawn(1, 200));
    dues.due("AT", x.counterOf(0, 2), 20);
    x.ask(2, 1000);
    x.seed(1);
    dues.due("breaks alone", x.evenings(1), 0);
    dues.due("60 SECONDS", x.counterOf(0, 4), 60);
    dues.due("SEED", x.status(7), drawn(1, 120));
    x.ask(0, 60);
    x.ask(2, 0);
    dues.due("just 60", x.evenings(1), 2);
    x.ask(0, 61);
    dues.due("one more", x.evenings(1), 0);
    dues.due("AT", x.counterOf(1, 2), 60);
    dues.due("DONE", x.status(6), 12);
    againstDraws();
  }

  private static int drawn(int seed, int times) {
    long s = seed;
    for (int i = 0; i < times; i++) s = s * 1103515245L + 12345L & 0xFFFFFFFFL;
    return (int) s;
  }

  /** Two SLIPPERS by draws, told again by hand: one begins AT 0 as both do, whatever they were. */
  private static void againstDraws() {
    for (int seed : new int[] {1, -1, 77, Integer.MIN_VALUE, 123456789}) {
      WhatDidYouSay x = new WhatDidYouSay();
      x.counter(2, 0);
      x.counter(2, 4);
      x.put(0, 20);
      x.put(1, 7);
      x.asks(1);
      x.ask(2, 400);
      x.seed(seed);
      long s = seed & 0xFFFFFFFFL;
      int[] at = new int[2];
      int[] heard = new int[2];
      int through = 0;
      for (int second = 0; second < 60 && through < 2; second++) {
        for (int i = 0; i < 2; i++) {
          if (at[i] == 20) continue;
          s = s * 1103515245L + 12345L & 0xFFFFFFFFL;
          if ((s >> 16) % 1000 < 400) heard[i]++;
          else if (++at[i] == 20) through++;
        }
      }
      dues.due("evenings of SEED " + seed, x.evenings(1), through);
      dues.due("SEED", x.status(7), (int) s);
      for (int i = 0; i < 2; i++) {
        dues.due("AT", x.counterOf(i, 2), at[i]);
        dues.due("OFF", x.counterOf(i, 3), heard[i] * (i == 0 ? 1 : 5));
        dues.due("HEARD", x.counterOf(i, 4), heard[i]);
      }
    }
  }

  private static void seeds() {
    WhatDidYouSay x = new WhatDidYouSay();
    dues.due("seed", x.seed(-5), 1);
    dues.due("seed", x.seed(Integer.MAX_VALUE), -5);
    dues.due("status", x.status(7), Integer.MAX_VALUE);
    dues.due("seed", x.seed(0), Integer.MAX_VALUE);
  }
}
