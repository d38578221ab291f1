/** The bounds of told evenings and of TALLIES ("Terms", 3.), and of promises 24, 25 and 29 to 31, sentence by sentence. */
public final class BoundsToldTest {
  private static final Dues dues = new Dues();

  public static void main(String[] args) {
    firstNumber();
    wrongByKinds();
    asItThenIs();
    lastThatMayBe();
    elements();
    breaks();
    trueOnes();
    liars();
    spreads();
    tallies();
    forget();
    dues.end();
  }

  /** What the numbers are judged: the place of the WRONG one, or NONE and so many breaks. */
  private static void evening(WhatDidYouSay x, int wrong, int breaks, long... said) {
    Dues.row(x, 6, 2, said);
    String told = java.util.Arrays.toString(said);
    dues.due("judge " + told, x.judge(0, 6, said.length), wrong);
    if (wrong < 0) dues.due("breaks " + told, x.breaks(0, 6, said.length), breaks);
    else dues.refused(x, "breaks " + told, () -> x.breaks(0, 6, said.length), -6);
  }

  private static void firstNumber() {
    dues.sentence(0, "A told evening: a ROW of numbers said one by one: WRONG: the first that is neither the one ahead (for the first: AT) and 1, nor where a break leaves it");
    WhatDidYouSay x = Dues.with(0, 0, 7, 20);
    evening(x, -1, 0, 8);
    evening(x, -1, 1, 0);
    evening(x, 0, 0, 7);
    evening(x, 0, 0, 9);
    evening(x, 0, 0, 1);
    evening(x, 0, 0, -1);
    evening(x, 0, 0, 8 + 65536);
    evening(x, 1, 0, 8, 8);
    evening(x, 1, 0, 8, 10);
    evening(x, -1, 0, 8, 9);
    evening(x, -1, 1, 8, 0);
    evening(x, 2, 0, 8, 0, 2);
    evening(x, 1, 0, 8, 7, 99, 8);
    x.put(0, 0);
    evening(x, -1, 2, 0, 0, 1);
  }

  /** From AT 7 by APART 5 and a 1, a break leaves each KIND there; that and 8 may be said, no other. */
  private static void wrongByKinds() {
    dues.sentence(0, "nor where a break leaves it (KIND and HEARD as they then are; both alike: a SECOND;");
    int[] left = {0, 5, 7, 6, 7, 5, 7};
    for (int kind = 0; kind < 7; kind++) {
      WhatDidYouSay x = Dues.with(kind, 1, 7, 20);
      for (int said = -1; said <= 21; said++) {
        if (said == left[kind]) evening(x, -1, 1, said);
        else if (said == 8) evening(x, -1, 0, said);
        else evening(x, 0, 0, said);
      }
    }
  }

  private static void asItThenIs() {
    dues.sentence(0, "(KIND and HEARD as they then are;");
    WhatDidYouSay x = Dues.with(4, 1, 7, 20);
    evening(x, -1, 2, 7, 0, 1);
    evening(x, 1, 0, 7, 7);
    evening(x, 0, 0, 0);
    evening(x, -1, 4, 7, 8, 0, 0, 1, 0);
    x.asks(0);
    evening(x, -1, 1, 0, 1);
    evening(x, -1, 2, 8, 0, 0);
    evening(x, 0, 0, 7);
    WhatDidYouSay deaf = Dues.with(6, 2, 7, 20);
    evening(deaf, -1, 3, 7, 7, 3, 4);
    evening(deaf, 2, 0, 7, 7, 7);
    WhatDidYouSay slipper = Dues.with(2, 9, 7, 20);
    evening(slipper, -1, 3, 7, 7, 8, 8);
    evening(slipper, 1, 0, 7, 17);
  }

  private static void lastThatMayBe() {
    dues.sentence(0, "N is the last that may be); NONE.");
    WhatDidYouSay x = Dues.with(2, 0, 18, 20);
    evening(x, -1, 0, 19, 20);
    evening(x, 2, 0, 19, 20, 21);
    evening(x, 2, 0, 19, 20, 20);
    evening(x, 2, 0, 19, 20, 0);
    evening(x, -1, 2, 18, 19, 19, 20);
    x.put(0, 20);
    evening(x, 0, 0, 21);
    evening(x, 0, 0, 20);
    evening(x, 0, 0, 0);
    evening(x, -1, 0);
  }

  private static void elements() {
    dues.sentence(24, "A told evening by the first n elements (0 to 40) of the ROW in SHELF s: WRONG; NONE.");
    WhatDidYouSay x = Dues.with(2, 0, 0, 200);
    Dues.seconds(x, 0, 41);
    dues.due("none", x.judge(0, 0, 0), -1);
    dues.due("40", x.judge(0, 0, 40), -1);
    dues.refused(x, "41", () -> x.judge(0, 0, 41), -16);
    dues.refused(x, "42 of 41", () -> x.judge(0, 0, 42), -15);
    dues.refused(x, "-1", () -> x.judge(0, 0, -1), -14);
    x.set(0, 39, 99);
    dues.due("the last of 40", x.judge(0, 0, 40), 39);
    dues.due("not told", x.judge(0, 0, 39), -1);
    x.set(0, 0, 99);
    dues.due("the first of several", x.judge(0, 0, 40), 0);
    x.row(1, 0, 0);
    dues.due("a ROW of none", x.judge(0, 1, 0), -1);
    dues.refused(x, "one of none", () -> x.judge(0, 1, 1), -15);
    dues.sentence(0, "(As ints: of longs the lowest 32 bits.)");
    Dues.row(x, 2, 3, 1 + (1L << 32), 2 - (1L << 32));
    dues.due("longs", x.judge(0, 2, 2), -1);
  }

  private static void breaks() {
    dues.sentence(0, "BREAKS of it: how many.");
    WhatDidYouSay x = Dues.with(0, 0, 0, 20);
    x.row(0, 2, 41);
    x.asks(0);
    dues.due("none", x.breaks(0, 0, 0), 0);
    dues.due("one, not two", x.breaks(0, 0, 1), 1);
    dues.due("40", x.breaks(0, 0, 40), 40);
    dues.at(x, 0, 0, 0, 1);
    dues.sentence(25, "BREAKS of it. -1; -2; -3; -4; -5; -6 also if it is WRONG.");
    dues.refused(x, "41", () -> x.breaks(0, 0, 41), -6);
    dues.refused(x, "42 of 41", () -> x.breaks(0, 0, 42), -5);
    x.set(0, 39, 5);
    dues.refused(x, "the last is WRONG", () -> x.breaks(0, 0, 40), -6);
    dues.due("the others aren't", x.breaks(0, 0, 39), 39);
    dues.due("judge tells the same as its answer", x.judge(0, 0, 40), 39);
    dues.due("that is no REFUSAL", x.status(16), 2);
  }

  private static WhatDidYouSay told(int... numbers) {
    WhatDidYouSay x = new WhatDidYouSay();
    for (int i = 0; i < numbers.length; i++) dues.due("tally", x.tally(numbers[i]), i + 1);
    return x;
  }

  private static void trueOnes() {
    dues.sentence(0, "TALLIES: TRUE ones: numbers of TALLIES that all of them but one at most have: the least such (NONE);");
    dues.due("none", told().tallies(0), -1);
    dues.due("all three", told(5, 5, 5).tallies(0), 5);
    dues.due("two of three", told(5, 4, 5).tallies(0), 5);
    dues.due("one of three", told(4, 5, 6).tallies(0), -1);
    dues.due("two of four", told(4, 4, 5, 5).tallies(0), -1);
    dues.due("three of four", told(0, 4, 4, 4).tallies(0), 4);
    dues.due("all 8", told(0, 0, 0, 0, 0, 0, 0, 0).tallies(0), 0);
    dues.due("7 of 8", told(9, 9, 9, 9, 9, 9, 9, 0).tallies(0), 9);
    dues.due("6 of 8", told(9, 9, 9, 9, 9, 9, 0, 0).tallies(0), -1);
    dues.sentence(0, "one TALLY alone, or the lesser of two, is TRUE.");
    dues.due("0 alone", told(0).tallies(0), 0);
    dues.due("9999 alone", told(9999).tallies(0), 9999);
    dues.due("the first of two", told(3, 8).tallies(0), 3);
    dues.due("the second of two", told(8, 3).tallies(0), 3);
    dues.due("two alike", told(8, 8).tallies(0), 8);
  }

  private static void liars() {
    dues.sentence(0, "LIAR: the TALLY that alone has another than all others, which are alike (three TALLIES at least); NONE.");
    dues.due("none", told().tallies(1), -1);
    dues.due("all alike", told(5, 5, 5).tallies(1), -1);
    dues.due("two others", told(5, 5, 6, 7).tallies(1), -1);
    dues.due("two alike others", told(5, 5, 6, 6).tallies(1), -1);
    dues.due("three others", told(4, 5, 6).tallies(1), -1);
    dues.due("all 8 alike", told(1, 1, 1, 1, 1, 1, 1, 1).tallies(1), -1);
    dues.sentence(0, "The LIAR is told by its place, and only of three TALLIES or more;");
    dues.due("of one", told(5).tallies(1), -1);
    dues.due("of two", told(5, 6).tallies(1), -1);
    dues.due("the first of three", told(0, 5, 5).tallies(1), 0);
    dues.due("the second of three", told(5, 6, 5).tallies(1), 1);
    dues.due("the last of three", told(5, 5, 6).tallies(1), 2);
    dues.due("the first of 8", told(2, 1, 1, 1, 1, 1, 1, 1).tallies(1), 0);
    dues.due("the last of 8", told(1, 1, 1, 1, 1, 1, 1, 2).tallies(1), 7);
  }

  private static void spreads() {
    dues.sentence(0, "SPREAD: the greatest less the least.");
    dues.due("alike", told(5, 5).tallies(2), 0);
    dues.due("one", told(9999).tallies(2), 0);
    dues.due("the most", told(9999, 0).tallies(2), 9999);
    dues.due("the other way about", told(0, 9999).tallies(2), 9999);
    dues.due("in the middle", told(5, 1, 9, 5).tallies(2), 8);
    dues.due("of 8", told(5, 5, 5, 5, 5, 5, 5, 3).tallies(2), 2);
    dues.sentence(30, "SPREAD (2; 0 of none)");
    WhatDidYouSay x = told();
    dues.due("none", x.tallies(2), 0);
    dues.nothingRefused(x);
  }

  private static void tallies() {
    dues.sentence(30, "Of TALLIES: the least TRUE one (what 0), LIAR (1), SPREAD (2; 0 of none), how many (3), 10 and a TALLY: its number. -15: another what, no such one (counted as -5).");
    WhatDidYouSay x = told(1, 2, 1, 1, 1, 1, 1, 9999);
    dues.due("how many", x.tallies(3), 8);
    dues.due("the first", x.tallies(10), 1);
    dues.due("the last", x.tallies(17), 9999);
    for (int what : new int[] {-1, 4, 9, 18}) dues.refused(x, "what " + what, () -> x.tallies(what), -15);
    WhatDidYouSay none = told();
    dues.due("none", none.tallies(3), 0);
    dues.refused(none, "the first of none", () -> none.tallies(10), -15);
    dues.sentence(29, "A TALLY: how many there are. -6; -7.");
    dues.due("the first", none.tally(0), 1);
    dues.due("the least may be", none.tallies(10), 0);
    dues.refused(none, "-1", () -> none.tally(-1), -6);
    dues.refused(none, "10000", () -> none.tally(10000), -6);
    dues.refused(x, "a ninth", () -> x.tally(0), -7);
    dues.refused(x, "a ninth that may not be", () -> x.tally(10000), -6);
  }

  private static void forget() {
    dues.sentence(31, "All TALLIES go: how many there were.");
    WhatDidYouSay x = told(1, 2, 3, 4, 5, 6, 7, 8);
    dues.due("8", x.forget(), 8);
    dues.due("none", x.forget(), 0);
    dues.due("how many", x.tallies(3), 0);
    dues.due("TRUE", x.tallies(0), -1);
    dues.due("SPREAD", x.tallies(2), 0);
    dues.refused(x, "gone", () -> x.tallies(10), -15);
    for (int i = 1; i <= 8; i++) dues.due("room for 8 again", x.tally(9), i);
  }
}
