/** The bounds of "Terms", 2. A SECOND, and of promise 15, sentence by sentence. */
public final class BoundsSecondTest {
  private static final Dues dues = new Dues();

  public static void main(String[] args) {
    second();
    counter();
    marker();
    slipper();
    heaper();
    stubborn();
    loud();
    deaf();
    heardThen();
    through();
    back();
    dues.end();
  }

  /** A break in truth of one who is AT a number of 200: AT, OFF and HEARD then; told ahead by back(), and by a RUN. */
  private static void broken(WhatDidYouSay x, int at, int leftAt, int off, int heard) {
    x.put(0, at);
    x.row(6, 2, 1);
    x.set(6, 0, 1);
    dues.due("back from " + at, x.back(0), leftAt);
    dues.due("a RUN from " + at, x.run(0, 6, 1, 1, 0), leftAt);
    dues.due("its OFF", x.run(0, 6, 1, 1, 1), off);
    dues.due("its HEARD", x.run(0, 6, 1, 1, 2), heard);
    dues.due("asks from " + at, x.asks(0), leftAt);
    dues.at(x, 0, leftAt, off, heard);
  }

  private static WhatDidYouSay of(int kind, int a) {
    return Dues.with(kind, a, 0, 200);
  }

  private static void second() {
    dues.sentence(0, "A SECOND of one who isn't through: AT is 1 more.");
    for (int kind = 0; kind < 7; kind++) {
      WhatDidYouSay x = Dues.with(kind, 3, 0, 20);
      dues.due("from 0", x.knits(0, 1), 1);
      x.put(0, 19);
      dues.due("to N", x.knits(0, 1), 20);
      dues.at(x, 0, 20, 0, 0);
    }
    dues.sentence(0, "Or it is a break instead: HEARD is 1 more, and by KIND:");
    for (int kind = 0; kind < 7; kind++) {
      WhatDidYouSay x = Dues.with(kind, 9, 19, 20);
      x.asks(0);
      dues.due("HEARD of KIND " + kind, x.counterOf(0, 4), 1);
      dues.due("not through by it", x.status(1), 0);
    }
  }

  private static void counter() {
    dues.sentence(0, "COUNTER: AT is 0.");
    WhatDidYouSay x = of(0, 9);
    int[] at = {0, 1, 5, 199};
    for (int i = 0; i < at.length; i++) broken(x, at[i], 0, 0, i + 1);
  }

  private static void marker() {
    dues.sentence(0, "MARKER: AT is the last MARK that isn't above it.");
    WhatDidYouSay x = of(1, 9);
    int[] at = {0, 1, 4, 5, 6, 9, 10, 199};
    int[] left = {0, 0, 0, 5, 5, 5, 10, 195};
    for (int i = 0; i < at.length; i++) broken(x, at[i], left[i], 0, i + 1);
    WhatDidYouSay y = of(1, 0);
    y.ask(1, 1);
    broken(y, 7, 7, 0, 1);
    y.ask(1, 200);
    broken(y, 199, 0, 0, 2);
    y.ask(1, 199);
    broken(y, 199, 199, 0, 3);
  }

  private static void slipper() {
    dues.sentence(0, "SLIPPER: AT stays, OFF is a and 1 more.");
    WhatDidYouSay x = of(2, 0);
    broken(x, 0, 0, 1, 1);
    broken(x, 199, 199, 2, 2);
    WhatDidYouSay y = of(2, 9);
    broken(y, 7, 7, 10, 1);
    broken(y, 7, 7, 20, 2);
  }

  private static void heaper() {
    dues.sentence(0, "HEAPER: AT is less by what is left over of it by a and 2; OFF is 1 more.");
    WhatDidYouSay x = of(3, 0);
    int[] at = {0, 1, 2, 3, 198, 199};
    int[] left = {0, 0, 2, 2, 198, 198};
    for (int i = 0; i < at.length; i++) broken(x, at[i], left[i], i + 1, i + 1);
    WhatDidYouSay y = of(3, 9);
    int[] others = {0, 10, 11, 12, 21, 22, 197, 198, 199};
    int[] heaps = {0, 0, 11, 11, 11, 22, 187, 198, 198};
    for (int i = 0; i < others.length; i++) broken(y, others[i], heaps[i], i + 1, i + 1);
  }

  private static void stubborn() {
    dues.sentence(0, "STUBBORN: as COUNTER, if a and 1 divides HEARD (as it is then), else AT stays.");
    hears(4, 0, 0, 199);
    hears(4, 1, 0, 199);
    hears(4, 9, 0, 199);
  }

  /** Two rounds and one break more of who hears each (a + 1)-th break. */
  private static void hears(int kind, int a, int leftAt, int at) {
    WhatDidYouSay x = of(kind, a);
    for (int heard = 1; heard <= 2 * a + 3; heard++) broken(x, at, heard % (a + 1) == 0 ? leftAt : at, 0, heard);
  }

  private static void loud() {
    dues.sentence(0, "LOUD: AT stays, if it is no more than a above its last MARK; else as MARKER.");
    WhatDidYouSay none = of(5, 0);
    broken(none, 5, 5, 0, 1);
    broken(none, 6, 5, 0, 2);
    WhatDidYouSay x = of(5, 2);
    int[] at = {0, 2, 3, 4, 5, 7, 8, 9, 197, 198};
    int[] left = {0, 2, 0, 0, 5, 7, 5, 5, 197, 195};
    for (int i = 0; i < at.length; i++) broken(x, at[i], left[i], 0, i + 1);
    WhatDidYouSay y = of(5, 9);
    y.ask(1, 11);
    broken(y, 9, 9, 0, 1);
    broken(y, 10, 0, 0, 2);
    broken(y, 20, 20, 0, 3);
    broken(y, 21, 11, 0, 4);
    y.ask(1, 10);
    broken(y, 19, 19, 0, 5);
  }

  private static void deaf() {
    dues.sentence(0, "DEAF: as STUBBORN, but AT is half (cut) instead of 0.");
    WhatDidYouSay x = of(6, 0);
    int[] at = {0, 1, 2, 3, 199};
    int[] left = {0, 0, 1, 1, 99};
    for (int i = 0; i < at.length; i++) broken(x, at[i], left[i], 0, i + 1);
    hears(6, 1, 99, 199);
    hears(6, 9, 1, 2);
  }

  private static void heardThen() {
    dues.sentence(0, "A break counts in HEARD when its KIND looks at that.");
    WhatDidYouSay x = of(4, 1);
    broken(x, 5, 5, 0, 1);
    broken(x, 5, 0, 0, 2);
    x.again(0);
    x.put(0, 5);
    dues.due("HEARD 0 again: the first is none", x.back(0), 5);
  }

  private static void through() {
    dues.sentence(0, "(Who is through stays so, and hears nothing.)");
    for (int kind = 0; kind < 7; kind++) {
      WhatDidYouSay x = Dues.with(kind, 0, 18, 20);
      Dues.row(x, 0, 2, 3, 4);
      dues.due("AT", x.run(0, 0, 2, 400, 0), 20);
      dues.due("OFF", x.run(0, 0, 2, 400, 1), 0);
      dues.due("HEARD", x.run(0, 0, 2, 400, 2), 0);
      dues.due("knits", x.knits(0, 100), 20);
      dues.due("knits", x.knits(0, 1), 20);
      dues.refused(x, "asks", () -> x.asks(0), -6);
      dues.at(x, 0, 20, 0, 0);
      Dues.row(x, 0, 2, 1);
      dues.due("HEARD of one who was", x.run(0, 0, 1, 400, 2), 0);
    }
  }

  private static void back() {
    dues.sentence(15, "Where a break would leave a COUNTER. -1; -6 it is through.");
    WhatDidYouSay x = Dues.with(6, 1, 19, 20);
    x.asks(0);
    dues.due("the second of a 1", x.back(0), 9);
    dues.at(x, 0, 19, 0, 1);
    x.put(0, 20);
    dues.refused(x, "through", () -> x.back(0), -6);
    x.ask(0, 21);
    dues.due("no more through", x.back(0), 10);
  }
}
