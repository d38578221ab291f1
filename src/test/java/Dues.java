/** What the tests share: answers that are due, and ROWS and texts put into SHELVES. */
final class Dues {
  private int wrong = 0;
  private int asked = 0;

  void due(String call, long got, long want) {
    asked++;
    if (got == want) return;
    wrong++;
    System.out.println(call + " answered " + got + ", due is " + want);
  }

  /** A call that is refused: its answer, and that it counts among the REFUSALS of its number. */
  void refused(WhatDidYouSay x, String call, java.util.function.IntSupplier it, int want) {
    int which = 10 + (want < -10 ? -want - 10 : -want);
    int before = x.status(which);
    due(call, it.getAsInt(), want);
    due(call + " then status(" + which + ")", x.status(which), before + 1);
  }

  void end() {
    System.out.println(wrong == 0 ? asked + " answers are as due" : wrong + " of " + asked + " answers are not as due");
    if (wrong != 0) System.exit(1);
  }

  static void row(WhatDidYouSay x, int s, int sort, long... elements) {
    x.row(s, sort, elements.length);
    for (int i = 0; i < elements.length; i++) x.set(s, i, elements[i]);
  }

  static void text(WhatDidYouSay x, int s, String letters) {
    x.row(s, 0, letters.length());
    for (int i = 0; i < letters.length(); i++) x.set(s, i, letters.charAt(i));
  }

  static int room(WhatDidYouSay x, String letters) {
    text(x, 7, letters);
    return x.room(7);
  }
}
