/** The bounds that "Terms", 1. THE ROOM, and promises 1 and 9 to 14 name, sentence by sentence. */
public final class BoundsRoomTest {
  private static final Dues dues = new Dues();
  private static final String[] WORDS = {"counter", "to", "apart", "odds", "cost", "tally", "ask"};

  public static void main(String[] args) {
    newObject();
    counters();
    kinds();
    firstStand();
    settings();
    throughAtN();
    marks();
    tallies();
    put();
    items();
    numbersOfWords();
    counterWord();
    toWord();
    otherWords();
    askWord();
    blanks();
    digits();
    allOrNothing();
    noRoom();
    tooEarly();
    cannotStand();
    mayNotBe();
    latestFault();
    dues.end();
  }

  private static void newObject() {
    dues.sentence(1, "No COUNTERS; N 20, APART 5, ODDS 100, COST 1.");
    WhatDidYouSay x = new WhatDidYouSay();
    int[] want = {0, 0, 20, 5, 100, 1};
    for (int what = 0; what < want.length; what++) dues.due("status(" + what + ")", x.status(what), want[what]);
    dues.nothingRefused(x);
    dues.refused(x, "the first COUNTER", () -> x.counterOf(0, 0), -5);
  }

  private static void counters() {
    dues.sentence(0, "COUNTERS have numbers, from 0 on, 6 at most");
    WhatDidYouSay x = new WhatDidYouSay();
    for (int i = 0; i < 6; i++) {
      dues.due("COUNTERS ahead", x.status(0), i);
      dues.due("the number", x.counter(0, i), i);
      dues.due("its a", x.counterOf(i, 1), i);
    }
    dues.refused(x, "a seventh", () -> x.counter(0, 0), -7);
    dues.due("COUNTERS", x.status(0), 6);
    dues.sentence(9, "A COUNTER: the number. -1 KIND; -6; -7.");
    WhatDidYouSay y = new WhatDidYouSay();
    dues.refused(y, "KIND -1", () -> y.counter(-1, 0), -1);
    dues.refused(y, "KIND 7", () -> y.counter(7, 0), -1);
    dues.refused(y, "a -1", () -> y.counter(0, -1), -6);
    dues.refused(y, "a 10", () -> y.counter(0, 10), -6);
    dues.due("the first behind REFUSALS", y.counter(0, 0), 0);
    dues.sentence(0, "a (0 to 9)");
    dues.due("a 0", y.counterOf(0, 1), 0);
    dues.due("a 9 may be", y.counter(6, 9), 1);
    dues.due("a 9", y.counterOf(1, 1), 9);
    dues.sentence(10, "Of a COUNTER: 0 KIND, 1 a, 2 AT, 3 OFF, 4 HEARD.");
    y.put(1, 7);
    for (int i = 0; i < 3; i++) y.asks(1);
    int[] want = {6, 9, 7, 0, 3};
    for (int what = 0; what < 5; what++) dues.due("counterOf " + what, y.counterOf(1, what), want[what]);
    dues.refused(y, "what -1", () -> y.counterOf(1, -1), -5);
    dues.refused(y, "what 5", () -> y.counterOf(1, 5), -5);
    dues.refused(y, "COUNTER 2 of 2", () -> y.counterOf(2, 0), -5);
  }

  private static void kinds() {
    dues.sentence(0, "each of a KIND: 0 COUNTER; 1 MARKER, 2 SLIPPER, 4 STUBBORN, each under COUNTER; 3 HEAPER, under SLIPPER; 5 LOUD, under MARKER; 6 DEAF, under STUBBORN");
    String[] takenFor = {"0", "01", "02", "023", "04", "015", "046"};
    for (int kind = 0; kind < 7; kind++) {
      WhatDidYouSay x = new WhatDidYouSay();
      x.counter(kind, 0);
      x.show(0, 0);
      dues.due("KIND", x.counterOf(0, 0), kind);
      for (int wanted = 0; wanted < 7; wanted++) {
        int want = takenFor[kind].indexOf('0' + wanted) >= 0 ? 0 : -2;
        dues.due("KIND " + kind + " for " + wanted, x.says(0, wanted), want);
      }
    }
  }

  private static void firstStand() {
    dues.sentence(0, "where it stands: AT (0 to N), OFF (how far wrong; 0 at first), HEARD (how many breaks; 0 at first).");
    for (int kind = 0; kind < 7; kind++) {
      WhatDidYouSay x = new WhatDidYouSay();
      x.counter(kind, 9);
      dues.at(x, 0, 0, 0, 0);
    }
  }

  private static void settings() {
    dues.sentence(11, "N (what 0; all who are AT more are AT N then), APART (1), ODDS (2), COST (3) becomes v: what it was. -6.");
    setting(0, "N (1 to 200; 20 at first)", 20, 1, 200);
    setting(1, "APART (1 to 200; 5 at first)", 5, 1, 200);
    setting(2, "ODDS (0 to 1000; 100 at first): of a break, by a SECOND, of 1000.", 100, 0, 1000);
    setting(3, "COST (0 to 99; 1 at first) of a MARK.", 1, 0, 99);
  }

  private static void setting(int what, String words, int first, int least, int most) {
    dues.sentence(0, words);
    WhatDidYouSay x = new WhatDidYouSay();
    dues.due("at first", x.status(2 + what), first);
    dues.refused(x, "below the least", () -> x.ask(what, least - 1), -6);
    dues.refused(x, "above the most", () -> x.ask(what, most + 1), -6);
    dues.due("stays", x.status(2 + what), first);
    dues.due("the least", x.ask(what, least), first);
    dues.due("it is", x.status(2 + what), least);
    dues.due("the most", x.ask(what, most), least);
    dues.due("it is", x.status(2 + what), most);
    dues.due("again", x.ask(what, most), most);
    int others = 0;
    for (int other = 0; other < 4; other++) if (other != what) others += x.status(2 + other);
    dues.due("the others stay", others, 126 - first);
  }

  private static void throughAtN() {
    dues.sentence(0, "through is who is AT N.");
    for (int n : new int[] {1, 2, 200}) {
      WhatDidYouSay x = Dues.with(2, 0, n - 1, n);
      dues.due("AT 1 less", x.status(1), 0);
      dues.due("a break may be", x.asks(0), n - 1);
      x.put(0, n);
      dues.due("AT N", x.status(1), 1);
      dues.refused(x, "no break may be", () -> x.asks(0), -6);
    }
    dues.sentence(0, "Who is AT N by put() or by a lesser N has not come through in truth: DONE stays.");
    WhatDidYouSay y = Dues.with(0, 0, 10, 20);
    y.put(0, 20);
    y.put(0, 10);
    y.ask(0, 10);
    dues.due("through", y.status(1), 1);
    dues.due("DONE", y.status(6), 0);
    Dues.room(y, "to 9");
    dues.due("DONE", y.status(6), 0);
    dues.sentence(11, "all who are AT more are AT N then");
    WhatDidYouSay z = new WhatDidYouSay();
    for (int i = 0; i < 6; i++) {
      z.counter(3, 0);
      z.put(i, 7 + i);
    }
    z.asks(5);
    dues.due("N", z.ask(0, 10), 20);
    int[] want = {7, 8, 9, 10, 10, 10};
    for (int i = 0; i < 6; i++) dues.due("AT", z.counterOf(i, 2), want[i]);
    dues.at(z, 5, 10, 1, 1);
    dues.due("through", z.status(1), 3);
    z.ask(0, 1);
    dues.due("all are AT 1", z.status(1), 6);
    z.ask(0, 200);
    dues.due("all stay there", z.status(1), 0);
    dues.due("AT", z.counterOf(0, 2), 1);
  }

  private static void marks() {
    dues.sentence(0, "MARKS are 0 and all numbers that APART divides.");
    int[][] rows = {{5, 0, 0}, {5, 4, 0}, {5, 5, 5}, {5, 6, 5}, {5, 9, 5}, {5, 10, 10}, {1, 0, 0}, {1, 1, 1}, {1, 199, 199}, {200, 1, 0}, {200, 199, 0},
        {199, 198, 0}, {199, 199, 199}};
    for (int[] row : rows) {
      WhatDidYouSay x = Dues.with(1, 0, row[1], 200);
      x.ask(1, row[0]);
      dues.due("the last MARK of " + row[1] + " by " + row[0], x.back(0), row[2]);
    }
    WhatDidYouSay y = Dues.with(1, 0, 200, 200);
    y.ask(1, 200);
    y.show(0, 0);
    dues.due("200 is a MARK too", y.says(0, 1), 200);
  }

  private static void tallies() {
    dues.sentence(0, "TALLIES: 8 at most, numbers 0 to 9999 (none at first).");
    WhatDidYouSay x = new WhatDidYouSay();
    dues.due("none at first", x.tallies(3), 0);
    dues.refused(x, "-1", () -> x.tally(-1), -6);
    dues.refused(x, "10000", () -> x.tally(10000), -6);
    dues.due("0", x.tally(0), 1);
    dues.due("9999", x.tally(9999), 2);
    dues.due("0", x.tallies(10), 0);
    dues.due("9999", x.tallies(11), 9999);
    for (int i = 3; i <= 8; i++) dues.due("tally", x.tally(i), i);
    dues.refused(x, "a ninth", () -> x.tally(1), -7);
    dues.due("8", x.tallies(3), 8);
  }

  private static void put() {
    dues.sentence(12, "A COUNTER is AT v (0 to N; OFF and HEARD stay): where it was. -1; -6.");
    WhatDidYouSay x = Dues.with(2, 3, 5, 200);
    x.asks(0);
    dues.due("N", x.put(0, 200), 5);
    dues.at(x, 0, 200, 4, 1);
    dues.due("0", x.put(0, 0), 200);
    dues.at(x, 0, 0, 4, 1);
    dues.refused(x, "-1", () -> x.put(0, -1), -6);
    dues.refused(x, "201", () -> x.put(0, 201), -6);
    x.ask(0, 1);
    dues.refused(x, "2 of 1", () -> x.put(0, 2), -6);
    dues.due("1 of 1", x.put(0, 1), 0);
  }

  private static void good(WhatDidYouSay x, String text, int items) {
    dues.due("room of " + text, Dues.room(x, text), items);
    dues.due("fault of " + text, x.fault(), -1);
  }

  private static void good(String text, int items) {
    good(new WhatDidYouSay(), text, items);
  }

  private static void fault(WhatDidYouSay x, String text, int place) {
    Dues.text(x, 7, text);
    dues.refused(x, "room of " + text, () -> x.room(7), -6);
    dues.due("fault of " + text, x.fault(), place);
  }

  private static void fault(String text, int place) {
    WhatDidYouSay x = new WhatDidYouSay();
    fault(x, text, place);
    int[] want = {0, 0, 20, 5, 100, 1, 0, 1};
    for (int what = 0; what < want.length; what++) dues.due("nothing by " + text + ": " + what, x.status(what), want[what]);
  }

  private static void items() {
    dues.sentence(0, "A ROOM is read from a ROW of letters: ITEM, then any number of times ; and ITEM:");
    fault("", 0);
    good("to 5", 1);
    good("to 5;to 5", 2);
    fault(";to 5", 0);
    fault("to 5;", 5);
    fault("to 5;;to 5", 5);
    fault("to 5:to 5", 4);
    String most = "to 10;" + "to 1;".repeat(30) + "to 1";
    dues.due("so many elements", most.length(), 160);
    good(most, 32);
    fault(most.substring(0, 159), 159);
    dues.sentence(13, "how many ITEMS");
    good("to 5;apart 5;odds 5;cost 5;tally 5;counter 5 5;ask 0", 7);
    WhatDidYouSay x = new WhatDidYouSay();
    x.row(0, 3, 0);
    dues.refused(x, "room of no elements", () -> x.room(0), -6);
    dues.due("its FAULT", x.fault(), 0);
  }

  /** The least and the most of each word's NUMBER, and one less and one more. */
  private static void numbersOfWords() {
    dues.sentence(0, "to N (all who are AT more are AT N then); apart N; odds N; cost N; tally N;");
    String[] words = {"to", "apart", "odds", "cost", "tally"};
    int[] least = {1, 1, 0, 0, 0};
    int[] most = {200, 200, 1000, 99, 9999};
    for (int i = 0; i < words.length; i++) {
      WhatDidYouSay x = new WhatDidYouSay();
      good(x, words[i] + " " + least[i], 1);
      dues.due(words[i], i == 4 ? x.tallies(10) : x.status(2 + i), least[i]);
      good(x, words[i] + " " + most[i], 1);
      dues.due(words[i], i == 4 ? x.tallies(11) : x.status(2 + i), most[i]);
      if (least[i] > 0) fault(words[i] + " " + (least[i] - 1), words[i].length() + 1);
      if (most[i] < 9999) fault(words[i] + " " + (most[i] + 1), words[i].length() + 1);
    }
  }

  private static void counterWord() {
    dues.sentence(0, "counter K A (KIND, a);");
    WhatDidYouSay x = new WhatDidYouSay();
    good(x, "counter 0 0;counter 6 9", 2);
    int[] want = {0, 0, 0, 0, 0, 6, 9, 0, 0, 0};
    for (int i = 0; i < want.length; i++) dues.due("counterOf", x.counterOf(i / 5, i % 5), want[i]);
    fault("counter 7 0", 8);
    fault("counter 0 10", 10);
    fault("counter 7 10", 8);
    fault("counter 0", 9);
    fault("counter 0;", 9);
    fault("counter 7;", 8);
    fault("counter 7x", 8);
  }

  private static void toWord() {
    dues.sentence(0, "to N (all who are AT more are AT N then)");
    WhatDidYouSay x = Dues.with(2, 0, 12, 20);
    x.counter(2, 0);
    x.put(1, 11);
    good(x, "to 11", 1);
    dues.due("more", x.counterOf(0, 2), 11);
    dues.due("just N", x.counterOf(1, 2), 11);
    dues.due("DONE", x.status(6), 0);
    good(x, "to 5;to 200", 2);
    dues.due("the N ahead counted", x.counterOf(0, 2), 5);
    dues.due("N", x.status(2), 200);
  }

  private static void otherWords() {
    dues.sentence(0, "All is told over what there is, or nothing");
    WhatDidYouSay x = Dues.with(0, 0, 3, 20);
    x.tally(4);
    good(x, "counter 1 1;tally 5", 2);
    dues.due("COUNTERS", x.status(0), 2);
    dues.due("the first stays AT", x.counterOf(0, 2), 3);
    dues.due("TALLIES", x.tallies(3), 2);
    dues.due("the first", x.tallies(10), 4);
    dues.due("N stays", x.status(2), 20);
  }

  private static void askWord() {
    dues.sentence(0, "ask B (a break in truth of a COUNTER that isn't through).");
    fault("ask 0", 4);
    WhatDidYouSay x = Dues.with(2, 4, 19, 20);
    good(x, "ask 0", 1);
    dues.at(x, 0, 19, 5, 1);
    fault(x, "ask 1", 4);
    good(x, "counter 2 0;ask 1;ask 1", 3);
    dues.at(x, 1, 0, 2, 2);
    x.put(0, 20);
    fault(x, "ask 0", 4);
    dues.at(x, 0, 20, 5, 1);
    good(x, "to 21;ask 0", 2);
    dues.at(x, 0, 20, 10, 2);
    fault(x, "to 20;ask 0", 10);
    for (int i = 0; i < 4; i++) x.counter(2, 0);
    good(x, "ask 5", 1);
    dues.at(x, 5, 0, 1, 1);
    fault(x, "ask 6", 4);
    WhatDidYouSay y = Dues.with(1, 0, 13, 20);
    good(y, "apart 4;ask 0", 2);
    dues.due("by the APART told ahead", y.counterOf(0, 2), 12);
    dues.due("DONE", y.status(6), 0);
  }

  private static void blanks() {
    dues.sentence(0, "One blank between words and NUMBERS (1 to 4 digits).");
    String[] texts = {"to5", "to  5", "to\t5", " to 5", "to 5 ", "to 5 ;to 6", "to 5; to 6", "counter 1  2", "counter  1 2", "counter1 2", "counter 1,2", "t o 5",
        "counter 1 2 "};
    int[] places = {2, 3, 2, 0, 4, 4, 5, 10, 8, 7, 9, 1, 11};
    for (int i = 0; i < texts.length; i++) fault(texts[i], places[i]);
    good("counter 1 2", 1);
  }

  private static void digits() {
    dues.sentence(0, "NUMBERS (1 to 4 digits)");
    fault("to ;", 3);
    good("to 5", 1);
    good("to 05", 1);
    good("to 005", 1);
    good("to 0005", 1);
    fault("to 00010", 7);
    fault("to 00001", 3);
    good("tally 9999", 1);
    fault("tally 10000", 10);
    fault("tally 99999", 10);
    fault("tally 09999;to 5", 10);
    good("counter 0006 0009", 1);
    fault("counter 00006 9", 12);
    fault("counter 6 00009", 14);
    fault("to +5", 3);
    fault("to -5", 3);
    fault("to 5.0", 4);
    fault("to /", 3);
    fault("to :", 3);
  }

  private static void allOrNothing() {
    dues.sentence(0, "All is told over what there is, or nothing");
    WhatDidYouSay x = Dues.with(2, 0, 12, 20);
    x.tally(3);
    java.util.List<Integer> before = Dues.all(x);
    Dues.text(x, 7, "to 9;apart 9;odds 9;cost 9;tally 9;counter 1 1;ask 1;to 0");
    dues.due("room", x.room(7), -6);
    java.util.List<Integer> after = Dues.all(x);
    dues.due("REFUSALS of -6", after.get(5), before.get(5) + 1);
    // Behind the REFUSALS and 9 of status: 5 of the COUNTER, 5 of TALLIES, then the FAULT.
    dues.due("nothing", after.subList(7, 26).equals(before.subList(7, 26)) ? 1 : 0, 1);
    dues.due("the FAULT", x.fault(), 56);
  }

  private static void noRoom() {
    dues.sentence(0, "what there is no room for can't stand: its word");
    WhatDidYouSay x = new WhatDidYouSay();
    for (int i = 0; i < 5; i++) x.counter(0, 0);
    fault(x, "counter 0 0;counter 0 0", 12);
    good(x, "counter 0 0", 1);
    fault(x, "counter 0 0", 0);
    fault(x, "to 5;counter 0 0", 5);
    for (int i = 0; i < 7; i++) x.tally(i);
    fault(x, "tally 0;tally 0", 8);
    good(x, "tally 0", 1);
    fault(x, "tally 0", 0);
    fault(x, "cost 5;tally 0", 7);
    dues.sentence(0, "Whether there is room for a word is asked when its letters stand whole: until then the first element that is not as it is the FAULT, or the number of elements.");
    String[] texts = {"c", "counte", "countex", "counter", "counterx", "counter ", "counter 7", "t", "tall", "talx", "tally", "tallyx", "tally x", "tally 10000"};
    int[] places = {1, 6, 6, 0, 0, 0, 0, 1, 4, 3, 0, 0, 0, 0};
    for (int i = 0; i < texts.length; i++) fault(x, texts[i], places[i]);
    fault(x, "to 5;counte", 11);
    fault(x, "to 5;counter", 5);
    fault(x, "to 5;countes", 11);
    fault(x, "to 5;tall", 9);
    fault(x, "to 5;tally", 5);
    good(x, "cost 5;to 6;ask 0", 3);
  }

  private static void tooEarly() {
    dues.sentence(0, "(the number of elements, if it ends too early)");
    String text = "counter 6 9;ask 0;tally 7;apart 8;odds 9;cost 1;to 200";
    for (int i = 0; i < text.length(); i++) {
      String some = text.substring(0, i);
      boolean isWhole = some.matches("(.*;)?(counter \\d \\d|[a-z&&[^;]]+ \\d+)") && !some.matches("(.*;)?counter \\d");
      if (isWhole) good(some, some.split(";").length);
      else fault(some, i);
    }
    good(text, 7);
  }

  private static void cannotStand() {
    dues.sentence(0, "The FAULT: the first place at which an element can't stand as such texts go on");
    for (String word : WORDS) {
      String text = word + (word.equals("counter") ? " 1 1" : word.equals("ask") ? " x" : " 1");
      for (int i = 0; i < text.length(); i++) {
        fault(text.substring(0, i) + 'x' + text.substring(i + 1), i);
        fault("cost 77;" + text.substring(0, i) + 'x' + text.substring(i + 1), 8 + i);
      }
      fault(word.toUpperCase(), 0);
    }
    String[] mixed = {"cosunter 1 1", "coust 1", "toally 1", "tato 1", "asart 1", "apask 1", "oddss 1", "costs 1", "tos 1", "counters 1", "taily 1", "xto 1"};
    int[] places = {3, 3, 2, 2, 2, 3, 4, 4, 2, 7, 2, 0};
    for (int i = 0; i < mixed.length; i++) fault(mixed[i], places[i]);
    fault("to 5x;apart 0", 4);
    fault("to 5t", 4);
    fault("to 5to 6", 4);
    fault("to 5counter", 4);
    fault("xo 5;apart 0", 0);
    WhatDidYouSay y = new WhatDidYouSay();
    Dues.row(y, 0, 2, 't', 'o', ' ', '5' + 65536);
    dues.refused(y, "another int", () -> y.room(0), -6);
    dues.due("its place", y.fault(), 3);
    Dues.row(y, 0, 3, 't', 'o' + (1L << 32), ' ', '5' - (1L << 40));
    dues.due("of longs the lowest 32 bits", y.room(0), 1);
  }

  private static void mayNotBe() {
    dues.sentence(0, "of a NUMBER that may not be the place of its first digit.");
    fault("to 201", 3);
    fault("to 0000", 3);
    fault("to 9999", 3);
    fault("to 99999", 3);
    fault("apart 0201", 6);
    fault("odds 1001;x", 5);
    fault("cost 100x", 5);
    fault("cost 1;cost 0100", 12);
    fault("counter 10 0", 8);
    fault("counter 0 0;counter 0 99", 22);
    fault("counter 0 0;ask 01", 16);
    fault("to 0;x", 3);
  }

  private static void latestFault() {
    dues.sentence(14, "The FAULT of the latest room() that came to a ROW; NONE: there was none, or none yet.");
    WhatDidYouSay x = new WhatDidYouSay();
    dues.due("none yet", x.fault(), -1);
    x.room(0);
    dues.due("none by NOTHING", x.fault(), -1);
    fault(x, "to x", 3);
    x.counter(0, 0);
    x.show(0, 0);
    x.room(0);
    x.room(1);
    x.room(-1);
    x.room(8);
    dues.due("stays: these came to no ROW", x.fault(), 3);
    good(x, "to 5", 1);
    dues.due("there was none", x.fault(), -1);
    fault(x, "to 01000", 7);
    dues.due("the latest", x.fault(), 7);
    good(x, "to 5;to 66", 2);
    fault(x, "to", 2);
    fault(x, "to ", 3);
    fault(x, "to 5;", 5);
    good(x, "to 5", 1);
    dues.due("a shorter text goes by its own elements", x.status(2), 5);
  }
}
