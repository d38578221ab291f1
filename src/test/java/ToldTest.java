/** Promises 24, 25 and 29 to 31: told evenings, TALLIES. */
public final class ToldTest {
  private static final Dues dues = new Dues();

  public static void main(String[] args) {
    right();
    wrong();
    refused();
    tallies();
    talliesRefused();
    dues.end();
  }

  /** A COUNTER that is AT 4 of 12, APART 5, says these; how many breaks, or at -1 - place the WRONG one. */
  private static void evening(int kind, int a, int want, long... said) {
    WhatDidYouSay x = new WhatDidYouSay();
    x.counter(kind, a);
    x.ask(0, 12);
    x.put(0, 4);
    Dues.row(x, 0, 2, said);
    StringBuilder call = new StringBuilder("KIND " + kind + "/" + a + " says");
    for (long one : said) call.append(' ').append(one);
    dues.due("judge: " + call, x.judge(0, 0, said.length), want < 0 ? -1 - want : -1);
    dues.due("breaks: " + call, x.breaks(0, 0, said.length), want < 0 ? -6 : want);
    dues.due("nothing is changed", x.counterOf(0, 2) * 100 + x.counterOf(0, 4), 400);
  }

  private static void right() {
    evening(0, 0, 0);
    evening(0, 0, 0, 5, 6, 7);
    evening(0, 0, 2, 0, 1, 2, 0, 1);
    evening(0, 0, 3, 0, 0, 0, 1);
    evening(1, 0, 2, 0, 1, 2, 3, 4, 5, 6, 5, 6);
    evening(1, 0, 1, 5, 5, 6);
    evening(2, 3, 3, 4, 4, 5, 5);
    evening(3, 1, 2, 3, 4, 5, 3);
    evening(4, 1, 2, 4, 0, 1);
    evening(4, 0, 1, 0, 1);
    evening(4, 2, 4, 4, 5, 5, 0, 1, 1);
    evening(5, 1, 2, 5, 6, 6, 7, 5);
    evening(6, 1, 4, 4, 2, 3, 3, 1);
    evening(0, 0, 0, 5, 6, 7, 8, 9, 10, 11, 12);
  }

  private static void wrong() {
    evening(0, 0, -1, 4);
    evening(0, 0, -1, 6);
    evening(0, 0, -1, -1);
    evening(0, 0, -2, 5, 5);
    evening(1, 0, -1, 4);
    evening(1, 0, -3, 5, 6, 6);
    evening(2, 0, -1, 0);
    evening(4, 1, -1, 0);
    evening(4, 1, -2, 4, 4);
    evening(5, 1, -4, 5, 6, 7, 7);
    evening(6, 1, -2, 4, 0);
    evening(6, 2, -4, 4, 4, 5, 5);
    evening(0, 0, -9, 5, 6, 7, 8, 9, 10, 11, 12, 13);
    evening(2, 0, -9, 5, 6, 7, 8, 9, 10, 11, 12, 12);
    evening(0, 0, -9, 5, 6, 7, 8, 9, 10, 11, 12, 0);
    evening(0, 0, -1, 5 + (1L << 31));
    WhatDidYouSay x = new WhatDidYouSay();
    x.counter(4, 1);
    x.asks(0);
    x.put(0, 7);
    Dues.row(x, 0, 3, (1L << 32), 1, 1, 0);
    dues.due("HEARD as it is; longs as ints", x.judge(0, 0, 4), -1);
    dues.due("breaks of it alone", x.breaks(0, 0, 4), 3);
    dues.due("of the first three", x.breaks(0, 0, 3), 2);
    x.put(0, 20);
    dues.due("N is the last that may be", x.judge(0, 0, 4), 0);
    dues.due("but none may be", x.judge(0, 0, 0), -1);
  }

  private static void refused() {
    WhatDidYouSay x = new WhatDidYouSay();
    x.counter(0, 0);
    x.show(1, 0);
    x.row(0, 2, 41);
    dues.due("40", x.judge(0, 0, 40), -1);
    dues.due("40", x.breaks(0, 0, 40), 40);
    dues.refused(x, "no COUNTER", () -> x.judge(1, 1, -1), -11);
    dues.refused(x, "no SHELF", () -> x.judge(0, 8, -1), -11);
    dues.refused(x, "a COUNTER", () -> x.judge(0, 1, -1), -12);
    dues.refused(x, "NOTHING", () -> x.judge(0, 2, -1), -13);
    dues.refused(x, "n below 0", () -> x.judge(0, 0, -1), -14);
    dues.refused(x, "fewer elements", () -> x.judge(0, 0, 42), -15);
    dues.refused(x, "n above 40", () -> x.judge(0, 0, 41), -16);
    dues.refused(x, "no COUNTER", () -> x.breaks(-1, 1, -1), -1);
    dues.refused(x, "no SHELF", () -> x.breaks(0, -1, -1), -1);
    dues.refused(x, "a COUNTER", () -> x.breaks(0, 1, -1), -2);
    dues.refused(x, "NOTHING", () -> x.breaks(0, 2, -1), -3);
    dues.refused(x, "n below 0", () -> x.breaks(0, 0, -1), -4);
    dues.refused(x, "fewer elements", () -> x.breaks(0, 0, 42), -5);
    dues.refused(x, "n above 40", () -> x.breaks(0, 0, 41), -6);
    x.set(0, 3, 5);
    dues.refused(x, "WRONG", () -> x.breaks(0, 0, 4), -6);
    dues.due("WRONG is no refusal of judge", x.judge(0, 0, 4), 3);
  }

  /** The least TRUE one, the LIAR and the SPREAD of these. */
  private static void numbers(int isTrue, int liar, int spread, int... numbers) {
    WhatDidYouSay x = new WhatDidYouSay();
    for (int i = 0; i < numbers.length; i++) dues.due("tally", x.tally(numbers[i]), i + 1);
    String of = java.util.Arrays.toString(numbers);
    dues.due("TRUE of " + of, x.tallies(0), isTrue);
    dues.due("LIAR of " + of, x.tallies(1), liar);
    dues.due("SPREAD of " + of, x.tallies(2), spread);
    dues.due("how many of " + of, x.tallies(3), numbers.length);
    for (int i = 0; i < numbers.length; i++) dues.due("a TALLY of " + of, x.tallies(10 + i), numbers[i]);
    for (int which = 11; which <= 17; which++) dues.due("nothing is refused", x.status(which), 0);
    dues.due("forget", x.forget(), numbers.length);
    dues.due("none", x.tallies(3), 0);
    dues.due("none is TRUE", x.tallies(0), -1);
    dues.due("no SPREAD", x.tallies(2), 0);
    dues.due("forget again", x.forget(), 0);
  }

  private static void tallies() {
    numbers(-1, -1, 0);
    numbers(0, -1, 0, 0);
    numbers(9999, -1, 0, 9999);
    numbers(5, -1, 2, 7, 5);
    numbers(5, -1, 0, 5, 5);
    numbers(5, -1, 0, 5, 5, 5);
    numbers(5, 0, 1, 6, 5, 5);
    numbers(5, 1, 5, 5, 0, 5);
    numbers(5, 2, 9, 5, 5, 14);
    numbers(-1, -1, 2, 5, 6, 7);
    numbers(-1, -1, 1, 5, 6, 6, 5);
    numbers(7, 3, 6, 7, 7, 7, 1);
    numbers(-1, -1, 3, 7, 7, 8, 5);
    numbers(1, 7, 9998, 1, 1, 1, 1, 1, 1, 1, 9999);
    numbers(1, -1, 0, 1, 1, 1, 1, 1, 1, 1, 1);
    numbers(-1, -1, 2, 1, 2, 1, 1, 1, 1, 1, 3);
  }

  private static void talliesRefused() {
    WhatDidYouSay x = new WhatDidYouSay();
    dues.refused(x, "tally(-1)", () -> x.tally(-1), -6);
    dues.refused(x, "tally(10000)", () -> x.tally(10000), -6);
    for (int i = 0; i < 7; i++) x.tally(i);
    dues.refused(x, "no such one", () -> x.tallies(17), -15);
    dues.due("the eighth", x.tally(7), 8);
    dues.due("it", x.tallies(17), 7);
    dues.refused(x, "a ninth", () -> x.tally(8), -7);
    dues.refused(x, "a ninth that may not be", () -> x.tally(10000), -6);
    dues.refused(x, "no such one", () -> x.tallies(18), -15);
    dues.refused(x, "another what", () -> x.tallies(4), -15);
    dues.refused(x, "another what", () -> x.tallies(9), -15);
    dues.refused(x, "another what", () -> x.tallies(-1), -15);
    dues.refused(x, "another what", () -> x.tallies(Integer.MIN_VALUE), -15);
    dues.refused(x, "another what", () -> x.tallies(Integer.MAX_VALUE), -15);
    x.forget();
    dues.refused(x, "gone", () -> x.tallies(10), -15);
    dues.due("room again", x.tally(3), 1);
  }
}
