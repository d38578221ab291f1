import java.util.ArrayList;
import java.util.List;
import java.util.function.IntSupplier;
import java.util.function.Supplier;
import java.util.function.ToIntFunction;

/** What the tests share: answers that are due, the sentences that they hold, and ROWS and texts put into SHELVES. */
final class Dues {
  private int wrong = 0;
  private int asked = 0;
  private int sentences = 0;
  private String sentence = "";

  /** The sentence that the next answers hold: it has to stand so in the section of that promise (0: "Terms"). */
  void sentence(int promise, String words) {
    sentences++;
    sentence = (promise == 0 ? "Terms" : "promise " + promise) + " \"" + words + "\": ";
    due("the document's own words", Doc.section(promise).contains(Doc.plain(words)) ? 1 : 0, 1);
  }

  void due(String call, long got, long want) {
    asked++;
    if (got == want) return;
    wrong++;
    System.out.println(sentence + call + " answered " + got + ", due is " + want);
  }

  /** A call that is refused: its answer, and that it counts among the REFUSALS of its number. */
  void refused(WhatDidYouSay x, String call, IntSupplier it, int want) {
    int which = countOf(want);
    int before = x.status(which);
    due(call, it.getAsInt(), want);
    due(call + " then status(" + which + ")", x.status(which), before + 1);
  }

  /** The same, and that nothing but that count is another than ahead of it; of a new object each time. */
  void refusedAlone(Supplier<WhatDidYouSay> made, String call, ToIntFunction<WhatDidYouSay> it, int want) {
    WhatDidYouSay x = made.get();
    List<Integer> before = all(x);
    due(call, it.applyAsInt(x), want);
    List<Integer> after = all(x);
    int counted = countOf(want) - 11;
    due(call + " counts as " + (-1 - counted), after.get(counted), before.get(counted) + 1);
    after.set(counted, before.get(counted));
    due(call + " changes nothing else", after.equals(before) ? 1 : 0, 1);
    WhatDidYouSay y = made.get();
    due(call + " leaves THE IMAGE", x.restore(), y.restore());
    due(call + " leaves all of THE IMAGE", but(all(x)).equals(but(all(y))) ? 1 : 0, 1);
  }

  private static List<Integer> but(List<Integer> all) {
    return all.subList(7, all.size());
  }

  /** How many of each of the seven REFUSALS there were. */
  static int[] refusals(WhatDidYouSay x) {
    int[] refusals = new int[7];
    for (int i = 0; i < refusals.length; i++) refusals[i] = x.status(11 + i);
    return refusals;
  }

  void nothingRefused(WhatDidYouSay x) {
    for (int which = 11; which <= 17; which++) due("nothing is refused: status(" + which + ")", x.status(which), 0);
  }

  private static int countOf(int refusal) {
    return 10 + (refusal < -10 ? -refusal - 10 : -refusal);
  }

  /** What can be asked for without a REFUSAL, the REFUSALS first; of ROWS the first four elements. */
  static List<Integer> all(WhatDidYouSay x) {
    List<Integer> all = new ArrayList<>();
    for (int refused : refusals(x)) all.add(refused);
    for (int what = 0; what <= 8; what++) all.add(x.status(what));
    int counters = all.get(7);
    for (int i = 0; i < counters; i++) for (int what = 0; what < 5; what++) all.add(x.counterOf(i, what));
    for (int what = 0; what < 4; what++) all.add(x.tallies(what));
    int tallies = all.get(all.size() - 1);
    for (int i = 0; i < tallies; i++) all.add(x.tallies(10 + i));
    all.add(x.fault());
    for (int i = 0; i < 10; i++) all.add(x.trace(i));
    for (int s = 0; s < 8; s++) {
      all.add(x.holds(s));
      for (int i = 0; i < 4; i++) all.add(Long.hashCode(x.element(s, i)));
    }
    return all;
  }

  void end() {
    String many = sentences > 0 ? " for " + sentences + " sentences" : "";
    System.out.println(wrong == 0 ? asked + " answers are as due" + many : wrong + " of " + asked + " answers are not as due");
    if (wrong != 0) System.exit(1);
  }

  static void row(WhatDidYouSay x, int s, int sort, long... elements) {
    x.row(s, sort, elements.length);
    for (int i = 0; i < elements.length; i++) x.set(s, i, elements[i]);
  }

  /** So many SECONDS, 1 and on. */
  static void seconds(WhatDidYouSay x, int s, int many) {
    x.row(s, 2, many);
    for (int i = 0; i < many; i++) x.set(s, i, i + 1);
  }

  static void text(WhatDidYouSay x, int s, String letters) {
    x.row(s, 0, letters.length());
    for (int i = 0; i < letters.length(); i++) x.set(s, i, letters.charAt(i));
  }

  static int room(WhatDidYouSay x, String letters) {
    text(x, 7, letters);
    return x.room(7);
  }

  /** One COUNTER, AT a number of N. */
  static WhatDidYouSay with(int kind, int a, int at, int n) {
    WhatDidYouSay x = new WhatDidYouSay();
    x.counter(kind, a);
    x.ask(0, n);
    x.put(0, at);
    return x;
  }

  void at(WhatDidYouSay x, int counter, int at, int off, int heard) {
    due("AT of " + counter, x.counterOf(counter, 2), at);
    due("OFF of " + counter, x.counterOf(counter, 3), off);
    due("HEARD of " + counter, x.counterOf(counter, 4), heard);
  }
}
