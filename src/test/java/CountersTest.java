/** Promises 9 to 12 and 15: COUNTERS, what they go by, where they are, where a break would leave them. */
public final class CountersTest {
  private static final Dues dues = new Dues();

  public static void main(String[] args) {
    counters();
    asked();
    lesserN();
    put();
    back();
    dues.end();
  }

  private static void counters() {
    WhatDidYouSay x = new WhatDidYouSay();
    dues.refused(x, "counter(7, 10)", () -> x.counter(7, 10), -1);
    dues.refused(x, "counter(-1, 0)", () -> x.counter(-1, 0), -1);
    dues.refused(x, "counter(0, 10)", () -> x.counter(0, 10), -6);
    dues.refused(x, "counter(6, -1)", () -> x.counter(6, -1), -6);
    for (int i = 0; i < 6; i++) {
      dues.due("counter", x.counter(i + 1, 9 - i), i);
      int[] want = {i + 1, 9 - i, 0, 0, 0};
      for (int what = 0; what < 5; what++) dues.due("counterOf(" + i + ", " + what + ")", x.counterOf(i, what), want[what]);
    }
    dues.due("status(0)", x.status(0), 6);
    dues.refused(x, "a seventh", () -> x.counter(0, 0), -7);
    dues.refused(x, "a seventh of a 10", () -> x.counter(0, 10), -6);
    dues.refused(x, "a seventh of no KIND", () -> x.counter(7, 10), -1);
    dues.refused(x, "counterOf(6, 0)", () -> x.counterOf(6, 0), -5);
    dues.refused(x, "counterOf(-1, 0)", () -> x.counterOf(-1, 0), -5);
    dues.refused(x, "counterOf(0, 5)", () -> x.counterOf(0, 5), -5);
    dues.refused(x, "counterOf(0, -1)", () -> x.counterOf(0, -1), -5);
  }

  private static void asked() {
    WhatDidYouSay x = new WhatDidYouSay();
    int[] first = {20, 5, 100, 1};
    int[] least = {1, 1, 0, 0};
    int[] most = {200, 200, 1000, 99};
    for (int what = 0; what < 4; what++) {
      int w = what;
      dues.due("ask, the most", x.ask(w, most[w]), first[w]);
      dues.due("ask, the least", x.ask(w, least[w]), most[w]);
      dues.due("status", x.status(2 + w), least[w]);
      dues.refused(x, "ask too little", () -> x.ask(w, least[w] - 1), -6);
      dues.refused(x, "ask too much", () -> x.ask(w, most[w] + 1), -6);
      dues.due("status", x.status(2 + w), least[w]);
    }
    dues.refused(x, "ask(4, 1)", () -> x.ask(4, 1), -6);
    dues.refused(x, "ask(-1, 1)", () -> x.ask(-1, 1), -6);
  }

  private static void lesserN() {
    WhatDidYouSay x = new WhatDidYouSay();
    for (int i = 0; i < 3; i++) x.counter(2, 1);
    x.put(0, 9);
    x.put(1, 10);
    x.put(2, 15);
    x.asks(2);
    dues.due("ask N", x.ask(0, 10), 20);
    dues.due("less", x.counterOf(0, 2), 9);
    dues.due("just N", x.counterOf(1, 2), 10);
    dues.due("more", x.counterOf(2, 2), 10);
    dues.due("OFF stays", x.counterOf(2, 3), 2);
    dues.due("HEARD stays", x.counterOf(2, 4), 1);
    dues.due("through", x.status(1), 2);
    dues.due("not in truth", x.status(6), 0);
    dues.due("ask N more", x.ask(0, 12), 10);
    dues.due("through no more", x.status(1), 0);
    dues.due("stays", x.counterOf(2, 2), 10);
  }

  private static void put() {
    WhatDidYouSay x = new WhatDidYouSay();
    x.counter(3, 1);
    x.put(0, 8);
    x.asks(0);
    dues.due("put", x.put(0, 20), 6);
    dues.due("AT", x.counterOf(0, 2), 20);
    dues.due("OFF stays", x.counterOf(0, 3), 1);
    dues.due("HEARD stays", x.counterOf(0, 4), 1);
    dues.due("through", x.status(1), 1);
    dues.due("not in truth", x.status(6), 0);
    dues.due("put 0", x.put(0, 0), 20);
    dues.refused(x, "put(1, -1)", () -> x.put(1, -1), -1);
    dues.refused(x, "put(-1, 0)", () -> x.put(-1, 0), -1);
    dues.refused(x, "put(0, -1)", () -> x.put(0, -1), -6);
    dues.refused(x, "put(0, 21)", () -> x.put(0, 21), -6);
    dues.due("stays", x.counterOf(0, 2), 0);
  }

  /** AT 13 and APART 5: what a break leaves, by KIND and a, of the first, second, third break. */
  private static void back() {
    int[][] rows = {
        {0, 3, 0, 0, 0}, {1, 3, 10, 10, 10}, {2, 3, 13, 13, 13}, {3, 0, 12, 12, 12}, {3, 3, 10, 10, 10}, {3, 9, 11, 11, 11},
        {4, 0, 0, 0, 0}, {4, 1, 13, 0, 13}, {4, 2, 13, 13, 0}, {5, 2, 10, 10, 10}, {5, 3, 13, 13, 13}, {5, 9, 13, 13, 13},
        {6, 0, 6, 6, 6}, {6, 1, 13, 6, 13}, {6, 2, 13, 13, 6}};
    for (int[] row : rows) {
      WhatDidYouSay x = new WhatDidYouSay();
      x.counter(row[0], row[1]);
      for (int i = 0; i < 3; i++) {
        x.put(0, 13);
        dues.due("back of KIND " + row[0] + ", a " + row[1], x.back(0), row[2 + i]);
        dues.due("stays", x.counterOf(0, 2), 13);
        dues.due("HEARD stays", x.counterOf(0, 4), i);
        dues.due("asks leaves it there", x.asks(0), row[2 + i]);
      }
      dues.due("OFF", x.counterOf(0, 3), row[0] == 2 ? 12 : row[0] == 3 ? 3 : 0);
    }
    WhatDidYouSay x = new WhatDidYouSay();
    x.counter(0, 0);
    dues.refused(x, "back(1)", () -> x.back(1), -1);
    dues.refused(x, "back(-1)", () -> x.back(-1), -1);
    x.put(0, 20);
    dues.refused(x, "back of who is through", () -> x.back(0), -6);
  }
}
