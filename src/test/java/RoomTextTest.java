/** Promises 13 and 14: ROOMS read from texts, and the FAULT. */
public final class RoomTextTest {
  private static final Dues dues = new Dues();

  public static void main(String[] args) {
    rooms();
    asksInTruth();
    faults();
    faultsOfNumbers();
    noRoom();
    otherSorts();
    refused();
    dues.end();
  }

  private static void rooms() {
    WhatDidYouSay x = new WhatDidYouSay();
    dues.due("all words", Dues.room(x, "counter 6 9;to 200;apart 7;odds 0;cost 99;tally 9999;ask 0;tally 0;counter 0 0"), 9);
    dues.due("fault()", x.fault(), -1);
    int[] want = {2, 0, 200, 7, 0, 99};
    for (int what = 0; what < 6; what++) dues.due("status(" + what + ")", x.status(what), want[what]);
    dues.due("KIND", x.counterOf(0, 0), 6);
    dues.due("a", x.counterOf(0, 1), 9);
    dues.due("HEARD", x.counterOf(0, 4), 1);
    dues.due("tallies", x.tallies(3), 2);
    dues.due("tally 0", x.tallies(10), 9999);
    dues.due("tally 1", x.tallies(11), 0);
    dues.due("over what there is", Dues.room(x, "cost 1"), 1);
    dues.due("COST", x.status(5), 1);
    dues.due("COUNTERS", x.status(0), 2);
    x.put(1, 150);
    dues.due("a lesser N", Dues.room(x, "to 100"), 1);
    dues.due("is AT N", x.counterOf(1, 2), 100);
    dues.due("not in truth", x.status(6), 0);
    dues.due("zeros ahead", Dues.room(x, "to 0030;apart 01"), 2);
    dues.due("N", x.status(2), 30);
    dues.due("APART", x.status(3), 1);
  }

  private static void asksInTruth() {
    WhatDidYouSay x = new WhatDidYouSay();
    x.counter(1, 0);
    x.put(0, 19);
    dues.due("the APART of the ITEM ahead", Dues.room(x, "apart 4;ask 0;apart 5"), 3);
    dues.due("AT", x.counterOf(0, 2), 16);
    dues.due("HEARD", x.counterOf(0, 4), 1);
    fault(x, "to 10;ask 0", 10);
    dues.due("stays", x.counterOf(0, 2), 16);
    dues.due("N stays", x.status(2), 20);
    dues.due("SLIPPER", Dues.room(x, "counter 2 3;ask 1;ask 1"), 3);
    dues.due("OFF", x.counterOf(1, 3), 8);
    x.put(0, 20);
    fault(x, "ask 0", 4);
    dues.due("no more through", Dues.room(x, "to 21;ask 0"), 2);
    dues.due("AT", x.counterOf(0, 2), 20);
  }

  private static void fault(WhatDidYouSay x, String text, int place) {
    Dues.text(x, 7, text);
    dues.refused(x, "room of " + text, () -> x.room(7), -6);
    dues.due("fault of " + text, x.fault(), place);
  }

  private static void fault(String text, int place) {
    fault(new WhatDidYouSay(), text, place);
  }

  private static void faults() {
    String[] texts = {"", "c", "co", "cou", "counter", "counter ", "counter 1", "counter 1 ", "t", "to", "to ", "ap", "a", "as", "ask", "o", "odds",
        "cos", "cost", "tal", "tally", "tally ", "to 5;", "to 5;c"};
    for (String text : texts) fault(text, text.length());
    fault("x", 0);
    fault(" to 5", 0);
    fault(";", 0);
    fault("5", 0);
    fault("To 5", 0);
    fault("cx", 1);
    fault("cosx", 3);
    fault("couu", 3);
    fault("counterx", 7);
    fault("counter;", 7);
    fault("tx", 1);
    fault("tox", 2);
    fault("to  5", 3);
    fault("to x", 3);
    fault("to 5t", 4);
    fault("to 5to 6", 4);
    fault("to 5 ", 4);
    fault("to 5 ;to 6", 4);
    fault("to 5; to 6", 5);
    fault("to 5;;", 5);
    fault("to 5,to 6", 4);
    fault("tally 12345", 10);
    fault("tally -1", 6);
    fault("counter 1  1", 10);
    fault("counter 1;", 9);
    fault("counter 1 1 1", 11);
    fault("oddx", 3);
    fault("apartx", 5);
    fault("asx", 2);
    longTexts();
    WhatDidYouSay x = new WhatDidYouSay();
    fault(x, "to 5;apart 6;odds 7;cost 8;counter 0 0;tally 9;x", 47);
    for (int i = 0; i < 6; i++) dues.due("nothing changed", x.status(i), new int[] {0, 0, 20, 5, 100, 1}[i]);
    dues.due("nothing changed", x.tallies(3), 0);
    dues.due("a good one", Dues.room(x, "to 9"), 1);
    dues.due("no FAULT", x.fault(), -1);
  }

  /** As many elements as there may be; behind such a one a short one goes by its own alone. */
  private static void longTexts() {
    String full = "cost 0;" + "to 11;".repeat(25) + "to ";
    WhatDidYouSay x = new WhatDidYouSay();
    fault(x, full, 160);
    WhatDidYouSay y = new WhatDidYouSay();
    dues.due("160 elements", Dues.room(y, full.substring(0, 157) + ";to"), -6);
    dues.due("its FAULT", y.fault(), 157);
    WhatDidYouSay z = new WhatDidYouSay();
    dues.due("160 elements", Dues.room(z, "odds 100;" + "to 1;".repeat(30) + "t"), -6);
    dues.due("its FAULT", z.fault(), 160);
    WhatDidYouSay w = new WhatDidYouSay();
    dues.due("a good one of 160", Dues.room(w, "odds 10;" + "to 12;".repeat(24) + "cost 033"), 26);
    dues.due("COST", w.status(5), 33);
    fault(w, "odds", 4);
    fault(w, "odds 1;to", 9);
  }

  private static void faultsOfNumbers() {
    fault("to 0", 3);
    fault("to 201", 3);
    fault("to 2010", 3);
    fault("to 20100", 3);
    fault("to 00200", 7);
    fault("to 0000", 3);
    fault("apart 0", 6);
    fault("apart 201;", 6);
    fault("odds 1001", 5);
    fault("odds 10000", 9);
    fault("cost 100", 5);
    fault("cost 100x", 5);
    fault("counter 7 1", 8);
    fault("counter 7", 8);
    fault("counter 7x", 8);
    fault("counter 6 10", 10);
    fault("ask 0", 4);
    fault("counter 0 0;ask 1", 16);
    fault("to 5;apart 6;cost 100", 18);
  }

  private static void noRoom() {
    WhatDidYouSay x = new WhatDidYouSay();
    for (int i = 0; i < 5; i++) x.counter(0, 0);
    fault(x, "counter 0 0;counter 0 0", 12);
    dues.due("the sixth", Dues.room(x, "counter 0 0"), 1);
    fault(x, "to 5;counter 0 0", 5);
    fault(x, "counter", 0);
    fault(x, "counterx", 0);
    fault(x, "counter 9 9", 0);
    fault(x, "counte", 6);
    fault(x, "countex", 6);
    fault(x, "cou", 3);
    for (int i = 0; i < 7; i++) x.tally(i);
    fault(x, "tally 1;tally 1", 8);
    x.tally(7);
    fault(x, "tally 1", 0);
    fault(x, "tally", 0);
    fault(x, "tall", 4);
    fault(x, "talx", 3);
    dues.due("the others can", Dues.room(x, "to 3;cost 3;ask 5"), 3);
  }

  private static void otherSorts() {
    WhatDidYouSay x = new WhatDidYouSay();
    long high = 7L << 32;
    Dues.row(x, 0, 3, 't' + high, 'o' - high, ' ', '9' + high);
    dues.due("longs as ints", x.room(0), 1);
    dues.due("N", x.status(2), 9);
    Dues.row(x, 0, 2, 't', 'o', ' ', '8');
    dues.due("ints", x.room(0), 1);
    Dues.row(x, 0, 2, 't', 'o' + 256, ' ', '8');
    dues.due("no such letter", x.room(0), -6);
    dues.due("its place", x.fault(), 1);
    Dues.row(x, 0, 1, 't', 'o', ' ', '7');
    dues.due("shorts", x.room(0), 1);
    dues.due("N", x.status(2), 7);
  }

  private static void refused() {
    WhatDidYouSay x = new WhatDidYouSay();
    x.counter(0, 0);
    x.show(0, 0);
    fault(x, "to x", 3);
    dues.refused(x, "room(8)", () -> x.room(8), -1);
    dues.refused(x, "room(-1)", () -> x.room(-1), -1);
    dues.refused(x, "room of a COUNTER", () -> x.room(0), -2);
    dues.refused(x, "room of NOTHING", () -> x.room(1), -3);
    dues.due("the FAULT is of the latest that came to a ROW", x.fault(), 3);
  }
}
