/** Promises 1 to 8: a new object; ROWS, COUNTERS and NOTHING in SHELVES. */
public final class ShelvesTest {
  private static final Dues dues = new Dues();

  public static void main(String[] args) {
    newObject();
    rows();
    elements();
    copies();
    copiesRefused();
    shown();
    said();
    dues.end();
  }

  private static void newObject() {
    WhatDidYouSay x = new WhatDidYouSay();
    int[] want = {0, 0, 20, 5, 100, 1, 0, 1, 0, -1, -1, 0, 0, 0, 0, 0, 0, 0, -1};
    for (int what = 0; what < want.length; what++) dues.due("new: status(" + what + ")", x.status(what), want[what]);
    for (int s = -1; s <= 8; s++) dues.due("new: holds(" + s + ")", x.holds(s), -1);
    dues.due("new: tallies(3)", x.tallies(3), 0);
    dues.due("new: fault()", x.fault(), -1);
    dues.due("new: trace(0)", x.trace(0), -1);
    dues.refused(x, "new: restore()", x::restore, -6);
    dues.refused(x, "new: counterOf(0, 0)", () -> x.counterOf(0, 0), -5);
  }

  private static void rows() {
    WhatDidYouSay x = new WhatDidYouSay();
    for (int sort = 0; sort < 4; sort++) {
      dues.due("row", x.row(sort, sort, sort), 1);
      dues.due("holds a ROW", x.holds(sort), 100 + sort);
    }
    dues.due("row of none", x.row(7, 0, 0), 1);
    dues.due("row of 160", x.row(7, 0, 160), 1);
    dues.due("last", x.set(7, 159, 5), 1);
    dues.due("row again", x.row(7, 0, 160), 1);
    dues.due("all 0 again", x.element(7, 159), 0);
    dues.refused(x, "row(8..)", () -> x.row(8, 9, -1), -1);
    dues.refused(x, "row(-1..)", () -> x.row(-1, 0, 1), -1);
    dues.refused(x, "row(.., -1)", () -> x.row(0, 9, -1), -4);
    dues.refused(x, "row(0, 4, 161)", () -> x.row(0, 4, 161), -6);
    dues.refused(x, "row(0, -1, 1)", () -> x.row(0, -1, 1), -6);
    dues.refused(x, "row(0, 3, 161)", () -> x.row(0, 3, 161), -7);
    dues.refused(x, "row(0, 3, most)", () -> x.row(0, 3, Integer.MAX_VALUE), -7);
    dues.due("nothing changed", x.holds(0), 100);
    x.counter(0, 0);
    x.show(1, 0);
    dues.due("row where a COUNTER was", x.row(1, 2, 3), 1);
    dues.due("holds it", x.holds(1), 102);
    dues.due("it is a ROW", x.set(1, 2, 8), 1);
    x.show(1, 0);
    dues.due("a COUNTER where a ROW was has no element", x.element(1, 2), 0);
    x.row(1, 2, 3);
    dues.due("a new ROW", x.element(1, 2), 0);
    x.set(1, 2, 8);
    x.show(1, -1);
    dues.due("nor has NOTHING", x.element(1, 2), 0);
  }

  private static void elements() {
    WhatDidYouSay x = new WhatDidYouSay();
    for (int sort = 0; sort < 4; sort++) x.row(sort, sort, 2);
    long v = 0x123456789ABCDEF0L;
    long[] want = {(byte) 0xF0, (short) 0xDEF0, 0x9ABCDEF0, v};
    for (int sort = 0; sort < 4; sort++) {
      dues.due("set", x.set(sort, 1, v), 1);
      dues.due("lowest bits of SORT " + sort, x.element(sort, 1), want[sort]);
      dues.due("the other", x.element(sort, 0), 0);
      x.set(sort, 0, -1);
      dues.due("-1", x.element(sort, 0), -1);
    }
    dues.due("200 as a byte", x.set(0, 0, 200), 1);
    dues.due("200 as a byte", x.element(0, 0), -56);
    dues.due("none there", x.element(0, 2), 0);
    dues.due("none there", x.element(0, -1), 0);
    dues.due("NOTHING", x.element(5, 0), 0);
    dues.due("no SHELF", x.element(8, 0), 0);
    dues.due("no SHELF", x.element(-1, 0), 0);
    x.counter(0, 0);
    x.show(6, 0);
    dues.due("a COUNTER", x.element(6, 0), 0);
    for (int which = 11; which <= 17; which++) dues.due("nothing is refused", x.status(which), 0);
    dues.refused(x, "set(8..)", () -> x.set(8, 0, 1), -1);
    dues.refused(x, "set(-1..)", () -> x.set(-1, 0, 1), -1);
    dues.refused(x, "set in a COUNTER", () -> x.set(6, -1, 1), -2);
    dues.refused(x, "set in NOTHING", () -> x.set(5, -1, 1), -3);
    dues.refused(x, "set(0, 2)", () -> x.set(0, 2, 1), -5);
    dues.refused(x, "set(0, -1)", () -> x.set(0, -1, 1), -5);
    dues.refused(x, "set(0, least)", () -> x.set(0, Integer.MIN_VALUE, 1), -5);
  }

  private static void copies() {
    WhatDidYouSay x = new WhatDidYouSay();
    Dues.row(x, 0, 2, 1, 2, 3, 4, 5);
    Dues.row(x, 1, 2, 11, 12, 13);
    dues.due("copy", x.copy(0, 1, 3, 1, 2), 1);
    same(x, 1, 11, 4, 5);
    dues.due("copy onto itself, on", x.copy(0, 0, 0, 1, 4), 1);
    same(x, 0, 1, 1, 2, 3, 4);
    dues.due("copy onto itself, back", x.copy(0, 0, 2, 0, 3), 1);
    same(x, 0, 2, 3, 4, 3, 4);
    dues.due("copy of none at the ends", x.copy(0, 1, 5, 3, 0), 1);
    same(x, 1, 11, 4, 5);
    x.set(0, 0, 99);
    same(x, 1, 11, 4, 5);
  }

  private static void same(WhatDidYouSay x, int s, long... want) {
    for (int i = 0; i < want.length; i++) dues.due("element(" + s + ", " + i + ")", x.element(s, i), want[i]);
  }

  private static void copiesRefused() {
    WhatDidYouSay x = new WhatDidYouSay();
    Dues.row(x, 0, 2, 1, 2, 3);
    Dues.row(x, 1, 3, 1, 2, 3);
    Dues.row(x, 2, 2, 1, 2, 3);
    x.counter(0, 0);
    x.show(3, 0);
    dues.refused(x, "no SHELF", () -> x.copy(8, 3, 0, 0, -1), -1);
    dues.refused(x, "no SHELF", () -> x.copy(3, -1, 0, 0, -1), -1);
    dues.refused(x, "a COUNTER and NOTHING", () -> x.copy(3, 4, 0, 0, -1), -2);
    dues.refused(x, "NOTHING and a COUNTER", () -> x.copy(4, 3, 0, 0, -1), -2);
    dues.refused(x, "a ROW and a COUNTER", () -> x.copy(0, 3, 0, 0, 1), -2);
    dues.refused(x, "two SORTS", () -> x.copy(0, 1, 0, 0, -1), -2);
    dues.refused(x, "a ROW and NOTHING", () -> x.copy(0, 4, 0, 0, -1), -3);
    dues.refused(x, "NOTHING and a ROW", () -> x.copy(4, 1, 0, 0, -1), -3);
    dues.refused(x, "n below 0", () -> x.copy(0, 2, -1, 0, -1), -4);
    dues.refused(x, "i below 0", () -> x.copy(0, 2, -1, 0, 0), -5);
    dues.refused(x, "j below 0", () -> x.copy(0, 2, 0, -1, 0), -5);
    dues.refused(x, "no such end", () -> x.copy(0, 2, 1, 0, 3), -5);
    dues.refused(x, "no such end", () -> x.copy(0, 2, 0, 1, 3), -5);
    dues.refused(x, "no such end of none", () -> x.copy(0, 2, 4, 0, 0), -5);
    dues.refused(x, "no such end of none", () -> x.copy(0, 2, 0, 4, 0), -5);
    dues.refused(x, "far", () -> x.copy(0, 2, Integer.MAX_VALUE, 0, 1), -5);
    dues.refused(x, "far", () -> x.copy(0, 2, 0, Integer.MAX_VALUE, Integer.MAX_VALUE), -5);
    same(x, 2, 1, 2, 3);
  }

  private static void shown() {
    WhatDidYouSay x = new WhatDidYouSay();
    x.counter(0, 0);
    x.counter(1, 0);
    dues.due("show", x.show(7, 1), 1);
    dues.due("holds", x.holds(7), 1);
    dues.due("show NOTHING", x.show(7, -1), 0);
    dues.due("holds NOTHING", x.holds(7), -1);
    x.row(0, 1, 1);
    dues.due("show where a ROW was", x.show(0, 0), 1);
    dues.due("holds", x.holds(0), 0);
    x.row(1, 1, 1);
    dues.due("NOTHING where a ROW was", x.show(1, -1), 0);
    dues.due("holds", x.holds(1), -1);
    dues.refused(x, "show(8..)", () -> x.show(8, -1), -1);
    dues.refused(x, "show(-1..)", () -> x.show(-1, 0), -1);
    dues.refused(x, "show(0, 2)", () -> x.show(0, 2), -1);
    dues.refused(x, "show(0, -2)", () -> x.show(0, -2), -1);
    dues.due("still", x.holds(0), 0);
  }

  private static void said() {
    WhatDidYouSay x = new WhatDidYouSay();
    int[] kinds = {0, 1, 2, 3, 4, 6};
    for (int i = 0; i < 6; i++) {
      x.counter(kinds[i], 2);
      x.put(i, 13);
      x.asks(i);
      x.show(i, i);
    }
    // AT now: 0, 10, 13, 12, 13, 13; OFF 3 and 1; all have HEARD 1.
    long[][] want = {
        {0, -2, -2, -2, -2, -2, -2},
        {10, 10, -2, -2, -2, -2, -2},
        {13, -2, 16, -2, -2, -2, -2},
        {12, -2, 13, 13, -2, -2, -2},
        {13, -2, -2, -2, 1, -2, -2},
        {13, -2, -2, -2, 1, -2, 6}};
    for (int s = 0; s < 6; s++) {
      for (int kind = 0; kind < 7; kind++) dues.due("says(" + s + ", " + kind + ")", x.says(s, kind), want[s][kind]);
    }
    x.ask(1, 4);
    dues.due("the last MARK", x.says(1, 1), 8);
    WhatDidYouSay y = new WhatDidYouSay();
    y.counter(5, 0);
    y.put(0, 13);
    y.show(0, 0);
    dues.due("LOUD as such", y.says(0, 5), 10);
    dues.due("LOUD as MARKER", y.says(0, 1), 10);
    dues.due("LOUD as COUNTER", y.says(0, 0), 13);
    dues.refused(y, "LOUD as SLIPPER", () -> y.says(0, 2), -2);
    y.row(1, 0, 1);
    dues.refused(y, "no SHELF", () -> y.says(8, 0), -1);
    dues.refused(y, "no SHELF", () -> y.says(-1, 0), -1);
    dues.refused(y, "no KIND", () -> y.says(1, 7), -1);
    dues.refused(y, "no KIND", () -> y.says(2, -1), -1);
    dues.refused(y, "a ROW", () -> y.says(1, 0), -2);
    dues.refused(y, "NOTHING", () -> y.says(2, 0), -3);
  }
}
