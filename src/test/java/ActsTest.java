/** Promises 37 to 41: ACTS and THE TRACE, THE IMAGE, status. */
public final class ActsTest {
  private static final Dues dues = new Dues();

  public static void main(String[] args) {
    acts();
    wrapping();
    noActs();
    images();
    shelvesOfImages();
    status();
    dues.end();
  }

  /** An ACT of the COUNTER with number 2, of a KIND and a, with x; then its bodies. */
  private static void act(int kind, int a, int act, int x, int want, int... bodies) {
    WhatDidYouSay room = new WhatDidYouSay();
    room.counter(0, 0);
    room.counter(0, 0);
    room.counter(kind, a);
    String call = "act " + act + " of KIND " + kind + " with " + x;
    dues.due(call, room.act(2, act, x), want);
    dues.due(call + ": bodies", room.status(8), bodies.length);
    for (int i = 0; i < bodies.length; i++) dues.due(call + ": trace(" + i + ")", room.trace(i), bodies[i]);
    dues.due(call + ": no more", room.trace(bodies.length), -1);
    dues.due(call + ": none ahead", room.trace(-1), -1);
  }

  private static void acts() {
    act(0, 3, 0, 10, 12, 10);
    act(1, 3, 0, 10, 15, 20, 10);
    act(2, 3, 0, 10, 12, 10);
    act(3, 3, 0, 10, 12, 10);
    act(4, 3, 0, 10, 10, 51, 10);
    act(5, 3, 0, 10, 15, 20, 10);
    act(6, 3, 0, 10, 20, 70, 51, 10);
    act(0, 3, 1, 10, 24, 11, 10);
    act(1, 3, 1, 10, 30, 11, 20, 10);
    act(2, 3, 1, 10, 72, 30, 11, 10);
    act(3, 3, 1, 10, 78, 40, 30, 11, 10);
    act(4, 3, 1, 10, 20, 11, 51, 10);
    act(5, 3, 1, 10, 30, 11, 20, 10);
    act(6, 3, 1, 10, 28, 71, 11, 70, 51, 10);
    act(0, 3, 2, 10, 24 ^ 9, 12, 11, 10, 10);
    act(1, 3, 2, 10, 30 ^ 12, 12, 11, 20, 10, 20, 10);
    act(2, 3, 2, 10, 72 ^ 9, 12, 30, 11, 10, 10);
    act(3, 3, 2, 10, 78 ^ 9, 12, 40, 30, 11, 10, 10);
    act(4, 3, 2, 10, -(20 ^ 7), 50, 12, 11, 51, 10, 51, 10);
    act(5, 3, 2, 10, 30 ^ 12 ^ 5, 60, 12, 11, 20, 10, 20, 10);
    act(5, 3, 2, 11, 32 ^ 13 ^ 5, 60, 12, 11, 20, 10, 20, 10);
    act(6, 3, 2, 10, -(28 ^ 14), 50, 12, 71, 11, 70, 51, 10, 70, 51, 10);
  }

  private static void wrapping() {
    act(0, 0, 0, Integer.MAX_VALUE, Integer.MIN_VALUE + 1, 10);
    act(0, 0, 1, Integer.MAX_VALUE, 2, 11, 10);
    act(3, 0, 1, Integer.MAX_VALUE, (Integer.MIN_VALUE + 2) * 2 * 3, 40, 30, 11, 10);
    act(6, 9, 0, Integer.MIN_VALUE, 0, 70, 51, 10);
  }

  private static void noActs() {
    WhatDidYouSay x = new WhatDidYouSay();
    x.counter(0, 0);
    int[][] calls = {{1, 0}, {-1, 0}, {0, 3}, {0, -1}};
    for (int[] call : calls) {
      dues.due("act", x.act(0, 0, 5), 5);
      dues.due("trace", x.trace(0), 10);
      dues.due("no such", x.act(call[0], call[1], 5), 0);
      dues.due("no TRACE", x.trace(0), -1);
      dues.due("no bodies", x.status(8), 0);
    }
    for (int which = 11; which <= 17; which++) dues.due("nothing is refused", x.status(which), 0);
    dues.due("far", x.trace(Integer.MAX_VALUE), -1);
    dues.due("far", x.trace(Integer.MIN_VALUE), -1);
  }

  private static void images() {
    WhatDidYouSay x = new WhatDidYouSay();
    dues.refused(x, "none yet", x::restore, -6);
    x.counter(2, 3);
    x.counter(1, 0);
    x.knits(1, 20);
    x.put(0, 4);
    x.asks(0);
    x.ask(1, 7);
    x.ask(2, 0);
    x.ask(3, 9);
    x.ask(0, 30);
    x.tally(8);
    x.seed(33);
    dues.due("image", x.image(), 2);
    change(x);
    for (int round = 0; round < 2; round++) {
      int wrong = x.status(16);
      dues.due("restore", x.restore(), 2);
      int[] want = {2, 0, 30, 7, 0, 9, 1, 33};
      for (int what = 0; what < want.length; what++) dues.due("restored: status " + what, x.status(what), want[what]);
      int[] slipper = {2, 3, 4, 4, 1};
      for (int what = 0; what < 5; what++) dues.due("restored: counterOf " + what, x.counterOf(0, what), slipper[what]);
      dues.due("restored: AT", x.counterOf(1, 2), 20);
      dues.due("restored: how many TALLIES", x.tallies(3), 1);
      dues.due("restored: TALLY", x.tallies(10), 8);
      dues.due("REFUSALS stay", x.status(16), wrong);
      dues.due("the FAULT stays", x.fault(), 3);
      dues.due("THE TRACE stays", x.trace(0), 51);
      dues.due("and its bodies", x.status(8), 2);
      change(x);
    }
  }

  /** All else than SHELVES, with a FAULT and a TRACE. */
  private static void change(WhatDidYouSay x) {
    x.counter(4, 0);
    x.act(2, 0, 1);
    x.again(0);
    x.forget();
    for (int i = 0; i < 3; i++) x.tally(i);
    x.evenings(2);
    for (int what = 0; what < 4; what++) x.ask(what, 5 + what);
    Dues.room(x, "to x");
  }

  private static void shelvesOfImages() {
    WhatDidYouSay x = new WhatDidYouSay();
    dues.due("image of none", x.image(), 0);
    x.counter(0, 0);
    x.show(0, 0);
    Dues.row(x, 2, 2, 5, 6);
    dues.due("image", x.image(), 1);
    x.counter(2, 7);
    x.knits(1, 9);
    x.asks(1);
    x.show(1, 1);
    x.show(3, 0);
    x.show(0, 1);
    dues.due("restore", x.restore(), 1);
    int[] want = {-1, -1, 102, 0};
    for (int s = 0; s < 4; s++) dues.due("holds(" + s + ")", x.holds(s), want[s]);
    dues.due("the ROW stays", x.element(2, 1), 6);
    dues.refused(x, "NOTHING there", () -> x.says(0, 0), -3);
    x.counter(3, 4);
    x.show(1, 1);
    dues.due("another of that number", x.says(1, 3), 0);
    int[] another = {3, 4, 0, 0, 0};
    for (int what = 0; what < 5; what++) dues.due("another: counterOf " + what, x.counterOf(1, what), another[what]);
  }

  private static void status() {
    WhatDidYouSay x = new WhatDidYouSay();
    for (int i = 0; i < 4; i++) x.counter(0, 0);
    x.put(0, 20);
    x.put(2, 20);
    dues.due("COUNTERS", x.status(0), 4);
    dues.due("through", x.status(1), 2);
    int[] others = {-1, 9, 10, 18, 100, Integer.MIN_VALUE, Integer.MAX_VALUE};
    for (int what : others) dues.due("status(" + what + ")", x.status(what), -1);
    // So many of each: -1 to -7.
    for (int i = 0; i < 2; i++) x.put(9, 0);
    x.show(0, 0);
    for (int i = 0; i < 3; i++) x.set(0, 0, 0);
    for (int i = 0; i < 4; i++) x.through(0, 1, 0);
    x.row(0, 0, -1);
    for (int i = 0; i < 5; i++) x.tallies(10);
    for (int i = 0; i < 6; i++) x.longest(0, 6);
    for (int i = 0; i < 7; i++) x.row(0, 0, 161);
    int[] want = {2, 3, 4, 1, 5, 6, 7};
    for (int i = 0; i < 7; i++) dues.due("REFUSALS " + (i + 1), x.status(11 + i), want[i]);
  }
}
