import java.util.Random;
import java.util.regex.Matcher;
import java.util.regex.Pattern;

/** FAULTS of many texts, against a second way to tell them: a pattern of the letters, then the words and NUMBERS in turn. */
public final class RoomPlainTest {
  private static final Dues dues = new Dues();
  private static final Random random = new Random(31);
  private static final String NUMBER = "\\d{1,4}";
  private static final String ITEM = "(counter " + NUMBER + " " + NUMBER + "|(to|apart|odds|cost|tally|ask) " + NUMBER + ")";
  private static final Pattern TEXT = Pattern.compile(ITEM + "(;" + ITEM + ")*");

  public static void main(String[] args) {
    int good = 0;
    for (int i = 0; i < 20000; i++) if (check()) good++;
    dues.due("some are good", good > 1000 && good < 19000 ? 1 : 0, 1);
    dues.end();
  }

  private static boolean check() {
    WhatDidYouSay x = new WhatDidYouSay();
    int counters = random.nextInt(7);
    int tallies = random.nextInt(9);
    for (int i = 0; i < counters; i++) x.counter(i, i);
    if (counters > 1) x.put(1, 20);
    for (int i = 0; i < tallies; i++) x.tally(i);
    String text = text();
    int want = fault(text, counters, tallies);
    int items = want < 0 ? text.split(";", -1).length : -6;
    dues.due("room of " + text + " over " + counters + ", " + tallies, Dues.room(x, text), items);
    dues.due("fault of " + text + " over " + counters + ", " + tallies, x.fault(), want);
    return want < 0;
  }

  private static String text() {
    String[] words = {"counter", "to", "apart", "odds", "cost", "tally", "ask"};
    StringBuilder text = new StringBuilder();
    int items = 1 + random.nextInt(5);
    for (int i = 0; i < items; i++) {
      String word = words[random.nextInt(words.length)];
      if (i > 0) text.append(';');
      text.append(word).append(' ').append(number());
      if (word.equals("counter")) text.append(' ').append(number());
    }
    if (random.nextInt(3) == 0) text.setCharAt(random.nextInt(text.length()), "countersplyk ;0123456789".charAt(random.nextInt(24)));
    if (random.nextInt(4) == 0) text.setLength(random.nextInt(text.length() + 1));
    if (random.nextInt(9) == 0) text.insert(random.nextInt(text.length() + 1), "0 ;x1t".charAt(random.nextInt(6)));
    if (text.length() > 160) text.setLength(160);
    return text.toString();
  }

  private static String number() {
    int digits = 1 + random.nextInt(12) / 6 * random.nextInt(4);
    StringBuilder number = new StringBuilder();
    for (int i = 0; i < digits; i++) number.append(random.nextInt(i == 0 ? 6 : 10));
    return number.toString();
  }

  private static int fault(String text, int counters, int tallies) {
    int standing = standing(text);
    int other = otherFault(text.substring(0, standing), counters, tallies);
    if (other >= 0) return other;
    Matcher whole = TEXT.matcher(text);
    return standing == text.length() && whole.matches() ? -1 : standing;
  }

  /** How many of the first letters can stand, if every word has room and every NUMBER may be. */
  private static int standing(String text) {
    int standing = 0;
    for (int i = 1; i <= text.length(); i++) {
      Matcher some = TEXT.matcher(text.substring(0, i));
      if (some.matches() || some.hitEnd()) standing = i;
      else break;
    }
    return standing;
  }

  /** The first word without room or NUMBER that may not be among letters that can stand; AT is 20 of the second COUNTER if it was there, 0 of others. */
  private static int otherFault(String text, int counters, int tallies) {
    int n = 20;
    int apart = 5;
    int at = counters > 1 ? 20 : 0;
    int place = 0;
    for (String item : text.split(";", -1)) {
      String[] parts = item.split(" ", -1);
      String word = parts[0];
      if (word.equals("counter") && counters == 6 || word.equals("tally") && tallies == 8) return place;
      int first = place + word.length() + 1;
      if (parts.length > 1 && !parts[1].isEmpty()) {
        int v = Integer.parseInt(parts[1]);
        if (word.equals("counter") && v > 6) return first;
        if (word.equals("to") && (v < 1 || v > 200)) return first;
        if (word.equals("apart") && (v < 1 || v > 200)) return first;
        if (word.equals("odds") && v > 1000) return first;
        if (word.equals("cost") && v > 99) return first;
        if (word.equals("ask") && (v >= counters || v == 1 && at >= n)) return first;
        if (word.equals("to")) n = v;
        if (word.equals("to")) at = Math.min(at, n);
        if (word.equals("tally")) tallies++;
        if (word.equals("apart")) apart = v;
        // The second is a MARKER, or a new one: who is AT 0 stays there by any break.
        if (word.equals("ask") && v == 1) at -= at % apart;
      }
      if (parts.length > 2 && !parts[2].isEmpty()) {
        if (Integer.parseInt(parts[2]) > 9) return first + parts[1].length() + 1;
        counters++;
      }
      place += item.length() + 1;
    }
    return -1;
  }
}
