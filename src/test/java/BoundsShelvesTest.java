/** The bounds of SHELVES and ROWS ("Terms", 3.) and of promises 2 to 8, sentence by sentence. */
public final class BoundsShelvesTest {
  private static final Dues dues = new Dues();

  public static void main(String[] args) {
    shelves();
    rows();
    lowestBits();
    set();
    copy();
    overlapping();
    element();
    show();
    holds();
    says();
    dues.end();
  }

  private static void shelves() {
    dues.sentence(0, "SHELVES 0 to 7 hold NOTHING (at first), a ROW, or a COUNTER.");
    WhatDidYouSay x = new WhatDidYouSay();
    x.counter(0, 0);
    for (int s : new int[] {0, 7}) {
      dues.due("at first", x.holds(s), -1);
      dues.refused(x, "says NOTHING", () -> x.says(s, 0), -3);
      dues.due("a ROW", x.row(s, 0, 1), 1);
      dues.due("holds it", x.holds(s), 100);
      dues.due("a COUNTER", x.show(s, 0), 1);
      dues.due("holds it", x.holds(s), 0);
      dues.due("has no element of the ROW that was there", x.element(s, 0), 0);
      dues.due("a ROW again", x.row(s, 3, 1), 1);
      dues.due("holds it", x.holds(s), 103);
      dues.due("its element", x.set(s, 0, 5), 1);
      dues.refused(x, "it is no COUNTER", () -> x.says(s, 0), -2);
      dues.due("NOTHING", x.show(s, -1), 0);
      dues.due("holds it", x.holds(s), -1);
      dues.due("has no element of the ROW that was there", x.element(s, 0), 0);
      dues.refused(x, "nor is one put in", () -> x.set(s, 0, 1), -3);
    }
    for (int s : new int[] {-1, 8}) {
      dues.refused(x, "row", () -> x.row(s, 0, 1), -1);
      dues.refused(x, "show", () -> x.show(s, 0), -1);
      dues.due("holds", x.holds(s), -1);
    }
  }

  private static void rows() {
    dues.sentence(0, "A ROW has a SORT (0 bytes, 1 shorts, 2 ints, 3 longs) and 0 to 160 elements, 0 at first; what is put in keeps its lowest bits.");
    for (int sort = 0; sort < 4; sort++) {
      WhatDidYouSay x = new WhatDidYouSay();
      dues.due("a ROW of none", x.row(0, sort, 0), 1);
      dues.due("its SORT", x.holds(0), 100 + sort);
      dues.refused(x, "has no element", () -> x.set(0, 0, 1), -5);
      dues.due("a full ROW", x.row(0, sort, 160), 1);
      for (int i = 0; i < 160; i++) dues.due("0 at first", x.element(0, i), 0);
      dues.due("the last", x.set(0, 159, 7), 1);
      dues.due("it is", x.element(0, 159), 7);
      dues.refused(x, "none behind it", () -> x.set(0, 160, 1), -5);
      dues.refused(x, "161", () -> x.row(0, 3, 161), -7);
      dues.due("stays", x.element(0, 159), 7);
    }
    WhatDidYouSay y = new WhatDidYouSay();
    dues.refused(y, "SORT -1", () -> y.row(0, -1, 1), -6);
    dues.refused(y, "SORT 4", () -> y.row(0, 4, 1), -6);
    dues.sentence(2, "SHELF s holds a new ROW: 1.");
    y.row(0, 2, 3);
    y.set(0, 2, 9);
    dues.due("a new ROW of one", y.row(0, 2, 1), 1);
    dues.due("none at 2", y.element(0, 2), 0);
    dues.due("a new ROW of three", y.row(0, 2, 3), 1);
    dues.due("0 at 2", y.element(0, 2), 0);
    dues.due("a ROW where it was", y.row(0, 0, 3), 1);
    dues.due("another SORT", y.holds(0), 100);
  }

  /** Just what each SORT can have, and one more and one less, that wrap. */
  private static void lowestBits() {
    dues.sentence(0, "what is put in keeps its lowest bits.");
    long[] most = {Byte.MAX_VALUE, Short.MAX_VALUE, Integer.MAX_VALUE, Long.MAX_VALUE};
    long[] least = {Byte.MIN_VALUE, Short.MIN_VALUE, Integer.MIN_VALUE, Long.MIN_VALUE};
    for (int sort = 0; sort < 4; sort++) {
      WhatDidYouSay x = new WhatDidYouSay();
      x.row(0, sort, 1);
      long[][] puts = {{most[sort], most[sort]}, {least[sort], least[sort]}, {most[sort] + 1, least[sort]}, {least[sort] - 1, most[sort]}, {-1, -1}, {0, 0},
          {Long.MIN_VALUE, sort == 3 ? Long.MIN_VALUE : 0}, {Long.MAX_VALUE, sort == 3 ? Long.MAX_VALUE : -1}};
      for (long[] put : puts) {
        dues.due("set " + put[0], x.set(0, 0, put[0]), 1);
        dues.due("SORT " + sort + " keeps of " + put[0], x.element(0, 0), put[1]);
      }
    }
    dues.sentence(0, "(As ints: of longs the lowest 32 bits.)");
    WhatDidYouSay y = Dues.with(2, 0, 0, 20);
    Dues.row(y, 0, 3, 1 + (1L << 32), 2 + Long.MIN_VALUE, 3 - (1L << 32));
    dues.due("told SECONDS", y.run(0, 0, 3, 3, 2), 3);
    dues.due("said numbers", y.judge(0, 0, 3), -1);
    Dues.row(y, 0, 3, 0x80000001L);
    dues.refused(y, "a SECOND below 0", () -> y.run(0, 0, 1, 1, 0), -6);
    dues.due("a number below 0", y.judge(0, 0, 1), 0);
  }

  private static void set() {
    dues.sentence(3, "Element i of the ROW becomes v: 1.");
    WhatDidYouSay x = new WhatDidYouSay();
    x.row(0, 2, 3);
    dues.due("the first", x.set(0, 0, 5), 1);
    dues.due("the last", x.set(0, 2, 6), 1);
    dues.refused(x, "ahead of the first", () -> x.set(0, -1, 1), -5);
    dues.refused(x, "behind the last", () -> x.set(0, 3, 1), -5);
    long[] want = {5, 0, 6, 0};
    for (int i = 0; i < 4; i++) dues.due("element", x.element(0, i), want[i]);
  }

  private static void copy() {
    dues.sentence(4, "Elements i, i + 1, .. of the ROW in SHELF p, n of them, come to elements j, j + 1, .. of that in q");
    WhatDidYouSay x = new WhatDidYouSay();
    x.row(0, 2, 160);
    x.row(1, 2, 160);
    for (int i : new int[] {0, 1, 158, 159}) x.set(0, i, 1000 + i);
    dues.due("all 160", x.copy(0, 1, 0, 0, 160), 1);
    for (int i : new int[] {0, 1, 158, 159}) dues.due("element", x.element(1, i), 1000 + i);
    dues.due("the last to the first", x.copy(0, 1, 159, 0, 1), 1);
    dues.due("it is", x.element(1, 0), 1159);
    dues.due("not the next", x.element(1, 1), 1001);
    dues.due("the first to the last", x.copy(0, 1, 0, 159, 1), 1);
    dues.due("it is", x.element(1, 159), 1000);
    dues.due("not the one ahead", x.element(1, 158), 1158);
    dues.due("none at the ends", x.copy(0, 1, 160, 160, 0), 1);
    dues.due("none at the beginnings", x.copy(0, 1, 0, 0, 0), 1);
    dues.due("nothing came", x.element(1, 0), 1159);
    dues.sentence(4, "-5 i or j below 0, or an end that isn't there.");
    dues.refused(x, "an end at 161 of p", () -> x.copy(0, 1, 1, 0, 160), -5);
    dues.refused(x, "an end at 161 of q", () -> x.copy(0, 1, 0, 1, 160), -5);
    dues.refused(x, "none at 161 of p", () -> x.copy(0, 1, 161, 0, 0), -5);
    dues.refused(x, "none at 161 of q", () -> x.copy(0, 1, 0, 161, 0), -5);
    dues.refused(x, "i below 0", () -> x.copy(0, 1, -1, 0, 1), -5);
    dues.refused(x, "j below 0", () -> x.copy(0, 1, 0, -1, 1), -5);
    dues.refused(x, "an end that wraps", () -> x.copy(0, 1, Integer.MAX_VALUE, 0, 1), -5);
    dues.due("nothing came", x.element(1, 0), 1159);
    WhatDidYouSay y = new WhatDidYouSay();
    y.row(0, 0, 0);
    y.row(1, 0, 0);
    dues.due("none of none", y.copy(0, 1, 0, 0, 0), 1);
    dues.refused(y, "one of none", () -> y.copy(0, 1, 0, 0, 1), -5);
    dues.sentence(4, "-2 also of two SORTS (when both hold something)");
    y.row(2, 1, 0);
    dues.refused(y, "two SORTS", () -> y.copy(0, 2, 0, 0, 0), -2);
    dues.refused(y, "a SORT and NOTHING", () -> y.copy(2, 3, 0, 0, 0), -3);
    for (int sort = 0; sort < 4; sort++) {
      Dues.row(y, 4, sort, -3);
      Dues.row(y, 5, sort, 9);
      dues.due("one SORT", y.copy(4, 5, 0, 0, 1), 1);
      dues.due("it came", y.element(5, 0), -3);
    }
    Dues.row(y, 4, 3, Long.MIN_VALUE);
    y.copy(4, 5, 0, 0, 1);
    dues.due("a long comes whole", y.element(5, 0), Long.MIN_VALUE);
  }

  private static void overlapping() {
    dues.sentence(4, "(as they were ahead): 1.");
    long[][] want = {{1, 1, 2, 3}, {2, 3, 4, 4}, {1, 2, 3, 4}, {1, 2, 3, 1}};
    int[][] copies = {{0, 1, 3}, {1, 0, 3}, {0, 0, 4}, {0, 3, 1}};
    for (int k = 0; k < copies.length; k++) {
      WhatDidYouSay x = new WhatDidYouSay();
      Dues.row(x, 3, 1, 1, 2, 3, 4);
      dues.due("copy", x.copy(3, 3, copies[k][0], copies[k][1], copies[k][2]), 1);
      for (int i = 0; i < 4; i++) dues.due("element " + i + " of " + k, x.element(3, i), want[k][i]);
    }
  }

  private static void element() {
    dues.sentence(5, "Element i of the ROW; 0 if there is none (nothing is refused).");
    WhatDidYouSay x = new WhatDidYouSay();
    Dues.row(x, 0, 0, 5, 6);
    x.counter(0, 0);
    x.show(1, 0);
    x.row(3, 0, 0);
    int[][] none = {{0, -1}, {0, 2}, {1, 0}, {2, 0}, {3, 0}, {-1, 0}, {8, 0}, {0, 160}};
    for (int[] args : none) dues.due("element " + args[0] + ", " + args[1], x.element(args[0], args[1]), 0);
    dues.due("the first", x.element(0, 0), 5);
    dues.due("the last", x.element(0, 1), 6);
    dues.nothingRefused(x);
  }

  private static void show() {
    dues.sentence(6, "SHELF s holds a COUNTER, or NOTHING (counter NONE): 1, 0. -1.");
    WhatDidYouSay x = new WhatDidYouSay();
    dues.refused(x, "COUNTER 0 of none", () -> x.show(0, 0), -1);
    dues.due("NOTHING of none", x.show(0, WhatDidYouSay.NONE), 0);
    for (int i = 0; i < 6; i++) x.counter(0, 0);
    dues.due("the last COUNTER", x.show(7, 5), 1);
    dues.refused(x, "no such one", () -> x.show(7, 6), -1);
    dues.refused(x, "nor below NONE", () -> x.show(7, -2), -1);
    dues.refused(x, "NOTHING in no SHELF", () -> x.show(8, -1), -1);
    dues.due("stays", x.holds(7), 5);
    dues.due("in two SHELVES", x.show(0, 5), 1);
    dues.due("both", x.holds(0) + x.holds(7), 10);
    dues.due("NOTHING", x.show(7, -1), 0);
    dues.due("the other stays", x.holds(0), 5);
  }

  private static void holds() {
    dues.sentence(7, "What SHELF s holds: NONE NOTHING, or no such SHELF; a COUNTER's number; 100 and the SORT of a ROW.");
    WhatDidYouSay x = new WhatDidYouSay();
    for (int i = 0; i < 6; i++) x.counter(0, 0);
    for (int s = 0; s < 4; s++) x.row(s, s, 0);
    x.show(4, 0);
    x.show(5, 5);
    x.show(6, -1);
    int[] want = {100, 101, 102, 103, 0, 5, -1, -1};
    for (int s = 0; s < 8; s++) dues.due("holds " + s, x.holds(s), want[s]);
    dues.due("holds -1", x.holds(-1), -1);
    dues.due("holds 8", x.holds(8), -1);
    dues.nothingRefused(x);
  }

  /** Each KIND AT 9 of N 20 by APART 5 and a 1, when it has heard two breaks AT 9; the HEAPER stands there. */
  private static void says() {
    dues.sentence(8, "What the COUNTER in SHELF s, taken for one of a KIND, says: COUNTER AT; MARKER, LOUD its last MARK; SLIPPER, HEAPER AT and OFF together; STUBBORN HEARD; DEAF half of AT (cut).");
    int[] takenFor = {0, 1, 0, 2, 0, 2, 3, 0, 4, 0, 1, 5, 0, 4, 6, 0};
    int[] ofKind = {0, 1, 1, 2, 2, 3, 3, 3, 4, 4, 5, 5, 5, 6, 6, 6};
    int[] want = {9, 5, 9, 13, 9, 11, 11, 9, 2, 9, 5, 5, 9, 2, 4, 9};
    for (int i = 0; i < want.length; i++) {
      WhatDidYouSay x = Dues.with(ofKind[i], 1, 9, 20);
      x.asks(0);
      x.asks(0);
      x.put(0, 9);
      x.show(2, 0);
      dues.due("KIND " + ofKind[i] + " for " + takenFor[i], x.says(2, takenFor[i]), want[i]);
    }
    WhatDidYouSay y = Dues.with(6, 0, 0, 200);
    y.show(0, 0);
    int[] at = {0, 1, 2, 3, 199, 200};
    int[] half = {0, 0, 1, 1, 99, 100};
    for (int i = 0; i < at.length; i++) {
      y.put(0, at[i]);
      dues.due("half of " + at[i], y.says(0, 6), half[i]);
    }
    WhatDidYouSay z = Dues.with(1, 0, 0, 20);
    z.show(0, 0);
    int[] marks = {0, 0, 0, 0, 0, 5, 5, 5, 5, 5, 10};
    for (int i = 0; i < marks.length; i++) {
      z.put(0, i);
      dues.due("the last MARK of " + i, z.says(0, 1), marks[i]);
    }
    z.put(0, 20);
    dues.due("who is through too", z.says(0, 1), 20);
  }
}
