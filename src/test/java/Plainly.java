import java.util.ArrayList;
import java.util.Arrays;
import java.util.HashMap;
import java.util.HashSet;
import java.util.List;
import java.util.Map;
import java.util.Set;

/** The document told a second time, without a thought of speed: KINDS are classes, SHELVES hold objects, a text is read by its words. */
final class Plainly {
  static final int NONE = -1;

  /** A COUNTER: KINDS under it are classes under its own. */
  static class Counter {
    State in;
    int number;
    int kind;
    int a;
    int at;
    int off;
    int heard;

    void hear() {
      heard++;
      broken();
    }

    void broken() {
      at = 0;
    }

    int lastMark() {
      int mark = at;
      while (mark % in.apart != 0) mark--;
      return mark;
    }

    int rest() {
      return 0;
    }

    boolean isThrough() {
      return at == in.n;
    }

    void second(boolean isBreak) {
      if (isThrough()) return;
      if (isBreak) hear();
      else at++;
    }

    void inTruth(boolean isBreak) {
      boolean was = isThrough();
      second(isBreak);
      if (!was && isThrough()) in.done++;
    }

    int counts(int x) {
      in.trace.add(10);
      return x + number;
    }

    int asks(int x) {
      in.trace.add(11);
      return counts(x) * 2;
    }

    int ends(int x) {
      in.trace.add(12);
      return asks(x) ^ counts(x - a);
    }
  }

  static class Marker extends Counter {
    @Override void broken() {
      at = lastMark();
    }

    @Override int counts(int x) {
      in.trace.add(20);
      return super.counts(x) + a;
    }
  }

  static class Slipper extends Counter {
    @Override void broken() {
      off += a + 1;
    }

    @Override int asks(int x) {
      in.trace.add(30);
      return super.asks(x) * 3;
    }
  }

  static class Heaper extends Slipper {
    @Override void broken() {
      at -= at % (a + 2);
      off += 1;
    }

    @Override int asks(int x) {
      in.trace.add(40);
      return super.asks(x + 1);
    }
  }

  static class Stubborn extends Counter {
    @Override void broken() {
      if (heard % (a + 1) == 0) listen();
    }

    void listen() {
      at = 0;
    }

    @Override int rest() {
      return heard % (a + 1);
    }

    @Override int ends(int x) {
      in.trace.add(50);
      return -super.ends(x);
    }

    @Override int counts(int x) {
      in.trace.add(51);
      return super.counts(x) - number;
    }
  }

  static class Loud extends Marker {
    @Override void broken() {
      if (at > lastMark() + a) super.broken();
    }

    @Override int ends(int x) {
      in.trace.add(60);
      return super.ends(x) ^ 5;
    }
  }

  static class Deaf extends Stubborn {
    @Override void listen() {
      at /= 2;
    }

    @Override int counts(int x) {
      in.trace.add(70);
      return super.counts(x) * 2;
    }

    @Override int asks(int x) {
      in.trace.add(71);
      return super.asks(x - a);
    }
  }

  private static final List<Class<?>> KINDS = List.of(Counter.class, Marker.class, Slipper.class, Heaper.class, Stubborn.class, Loud.class, Deaf.class);

  private static Counter made(int kind) {
    switch (kind) {
      case 0: return new Counter();
      case 1: return new Marker();
      case 2: return new Slipper();
      case 3: return new Heaper();
      case 4: return new Stubborn();
      case 5: return new Loud();
      default: return new Deaf();
    }
  }

  /** All that THE IMAGE keeps, and THE TRACE that acts write. */
  static final class State {
    final List<Counter> counters = new ArrayList<>();
    int n = 20;
    int apart = 5;
    int odds = 100;
    int cost = 1;
    final List<Integer> tallies = new ArrayList<>();
    int done = 0;
    int seed = 1;
    List<Integer> trace = new ArrayList<>();

    State another() {
      State it = new State();
      for (Counter one : counters) it.take(one, one.number);
      it.n = n;
      it.apart = apart;
      it.odds = odds;
      it.cost = cost;
      it.tallies.addAll(tallies);
      it.done = done;
      it.seed = seed;
      return it;
    }

    private Counter take(Counter one, int number) {
      Counter it = made(one.kind);
      it.in = this;
      it.number = number;
      it.kind = one.kind;
      it.a = one.a;
      it.at = one.at;
      it.off = one.off;
      it.heard = one.heard;
      counters.add(it);
      return it;
    }

    int begin(int kind, int a) {
      Counter it = made(kind);
      it.kind = kind;
      it.a = a;
      return take(it, counters.size()).number;
    }

    void to(int v) {
      n = v;
      for (Counter one : counters) if (one.at > n) one.at = n;
    }

    int draw(int below) {
      seed = seed * 1103515245 + 12345;
      return (seed >> 16 & 0xffff) % below;
    }

    boolean allThrough() {
      for (Counter one : counters) if (!one.isThrough()) return false;
      return true;
    }

    void evening() {
      for (Counter one : counters) one.at = one.off = one.heard = 0;
      for (int second = 1; second <= 60; second++) {
        if (allThrough()) return;
        for (Counter one : counters) if (!one.isThrough()) one.inTruth(draw(1000) < odds);
      }
    }
  }

  /** A FAULT, thrown where it is found. */
  private static final class Fault extends RuntimeException {
    private static final long serialVersionUID = 1;
    final int place;

    Fault(int place) {
      this.place = place;
    }
  }

  private State state = new State();
  private State image = null;
  private final Object[] shelves = new Object[8];
  private final int[] refused = new int[8];
  private int fault = NONE;

  // REFUSALS

  private int no(int number) {
    refused[number < -10 ? -10 - number : -number]++;
    return number;
  }

  private boolean noShelf(int s) {
    return s < 0 || s > 7;
  }

  private boolean noCounter(int counter) {
    return counter < 0 || counter >= state.counters.size();
  }

  private boolean noKind(int kind) {
    return kind < 0 || kind > 6;
  }

  private Counter who(int counter) {
    return state.counters.get(counter);
  }

  private static int length(Object row) {
    return java.lang.reflect.Array.getLength(row);
  }

  private static int sort(Object row) {
    if (row instanceof byte[]) return 0;
    if (row instanceof short[]) return 1;
    return row instanceof int[] ? 2 : 3;
  }

  private static List<Integer> ints(Object row, int n) {
    List<Integer> ints = new ArrayList<>();
    for (int i = 0; i < n; i++) ints.add((int) java.lang.reflect.Array.getLong(row, i));
    return ints;
  }

  /** 0, or the refusal of a ROW's first n elements as told SECONDS or told numbers, in the order of the REFUSALS. */
  private int rowNo(int s, Integer n, boolean another, boolean others, boolean areSeconds) {
    if (noShelf(s)) return -1;
    if (shelves[s] instanceof Counter) return -2;
    if (shelves[s] == null) return -3;
    if (n != null && n < 0) return -4;
    if (n != null && n > length(shelves[s]) || another) return -5;
    int many = n == null ? length(shelves[s]) : n;
    if (many > 40 || others) return -6;
    if (areSeconds && !ascending(ints(shelves[s], many))) return -6;
    return 0;
  }

  private static boolean ascending(List<Integer> seconds) {
    for (int i = 0; i < seconds.size(); i++) if (seconds.get(i) <= (i == 0 ? 0 : seconds.get(i - 1))) return false;
    return true;
  }

  // SHELVES

  int row(int s, int sort, int n) {
    if (noShelf(s)) return no(-1);
    if (n < 0) return no(-4);
    if (sort < 0 || sort > 3) return no(-6);
    if (n > 160) return no(-7);
    if (sort == 0) shelves[s] = new byte[n];
    if (sort == 1) shelves[s] = new short[n];
    if (sort == 2) shelves[s] = new int[n];
    if (sort == 3) shelves[s] = new long[n];
    return 1;
  }

  int set(int s, int i, long v) {
    if (noShelf(s)) return no(-1);
    Object row = shelves[s];
    if (row instanceof Counter) return no(-2);
    if (row == null) return no(-3);
    if (i < 0 || i >= length(row)) return no(-5);
    if (row instanceof byte[]) ((byte[]) row)[i] = (byte) v;
    if (row instanceof short[]) ((short[]) row)[i] = (short) v;
    if (row instanceof int[]) ((int[]) row)[i] = (int) v;
    if (row instanceof long[]) ((long[]) row)[i] = v;
    return 1;
  }

  int copy(int p, int q, int i, int j, int n) {
    if (noShelf(p) || noShelf(q)) return no(-1);
    Object from = shelves[p];
    Object to = shelves[q];
    if (from instanceof Counter || to instanceof Counter) return no(-2);
    if (from != null && to != null && sort(from) != sort(to)) return no(-2);
    if (from == null || to == null) return no(-3);
    if (n < 0) return no(-4);
    if (i < 0 || j < 0 || (long) i + n > length(from) || (long) j + n > length(to)) return no(-5);
    System.arraycopy(from, i, to, j, n);
    return 1;
  }

  long element(int s, int i) {
    if (noShelf(s) || shelves[s] == null || shelves[s] instanceof Counter) return 0;
    return i < 0 || i >= length(shelves[s]) ? 0 : java.lang.reflect.Array.getLong(shelves[s], i);
  }

  int show(int s, int counter) {
    if (noShelf(s) || counter != NONE && noCounter(counter)) return no(-1);
    shelves[s] = counter == NONE ? null : who(counter);
    return counter == NONE ? 0 : 1;
  }

  int holds(int s) {
    if (noShelf(s) || shelves[s] == null) return NONE;
    return shelves[s] instanceof Counter ? ((Counter) shelves[s]).number : 100 + sort(shelves[s]);
  }

  int says(int s, int kind) {
    if (noShelf(s) || noKind(kind)) return no(-1);
    if (shelves[s] != null && !KINDS.get(kind).isInstance(shelves[s])) return no(-2);
    if (shelves[s] == null) return no(-3);
    Counter one = (Counter) shelves[s];
    if (kind == 1 || kind == 5) return one.lastMark();
    if (kind == 2 || kind == 3) return one.at + one.off;
    if (kind == 4) return one.heard;
    return kind == 6 ? one.at / 2 : one.at;
  }

  // COUNTERS

  int counter(int kind, int a) {
    if (noKind(kind)) return no(-1);
    if (a < 0 || a > 9) return no(-6);
    if (state.counters.size() == 6) return no(-7);
    return state.begin(kind, a);
  }

  int counterOf(int counter, int what) {
    if (noCounter(counter) || what < 0 || what > 4) return no(-5);
    Counter one = who(counter);
    return List.of(one.kind, one.a, one.at, one.off, one.heard).get(what);
  }

  int ask(int what, int v) {
    int was;
    if (what == 0 && v >= 1 && v <= 200) {
      was = state.n;
      state.to(v);
    } else if (what == 1 && v >= 1 && v <= 200) {
      was = state.apart;
      state.apart = v;
    } else if (what == 2 && v >= 0 && v <= 1000) {
      was = state.odds;
      state.odds = v;
    } else if (what == 3 && v >= 0 && v <= 99) {
      was = state.cost;
      state.cost = v;
    } else {
      was = no(-6);
    }
    return was;
  }

  int put(int counter, int v) {
    if (noCounter(counter)) return no(-1);
    if (v < 0 || v > state.n) return no(-6);
    int was = who(counter).at;
    who(counter).at = v;
    return was;
  }

  // A ROOM

  int room(int s) {
    if (noShelf(s)) return no(-1);
    if (shelves[s] instanceof Counter) return no(-2);
    if (shelves[s] == null) return no(-3);
    StringBuilder text = new StringBuilder();
    // What is no sign of such a text becomes one that isn't, either.
    for (int one : ints(shelves[s], length(shelves[s]))) text.append(one >= ' ' && one <= 'z' ? (char) one : '?');
    State draft = state.another();
    try {
      int items = new Reader(text.toString(), draft).items();
      fault = NONE;
      adopt(draft);
      return items;
    } catch (Fault found) {
      fault = found.place;
      return no(-6);
    }
  }

  /** What is told over a room, or by THE IMAGE: SHELVES with COUNTERS hold those of the same numbers. */
  private void adopt(State other) {
    other.trace = state.trace;
    state = other;
    for (int s = 0; s < shelves.length; s++) {
      if (!(shelves[s] instanceof Counter)) continue;
      int number = ((Counter) shelves[s]).number;
      shelves[s] = noCounter(number) ? null : who(number);
    }
  }

  private static final class Reader {
    private static final List<String> WORDS = List.of("counter", "to", "apart", "odds", "cost", "tally", "ask");
    private final String text;
    private final State over;
    private int place = 0;

    Reader(String text, State over) {
      this.text = text;
      this.over = over;
    }

    int items() {
      int items = 0;
      do {
        if (items > 0) letter(';');
        item();
        items++;
      } while (place < text.length());
      return items;
    }

    private void item() {
      int first = place;
      String word = word();
      if (word.equals("counter") && over.counters.size() == 6) throw new Fault(first);
      if (word.equals("tally") && over.tallies.size() == 8) throw new Fault(first);
      letter(' ');
      switch (word) {
        case "counter":
          int kind = number(0, 6);
          letter(' ');
          over.begin(kind, number(0, 9));
          break;
        case "to": over.to(number(1, 200)); break;
        case "apart": over.apart = number(1, 200); break;
        case "odds": over.odds = number(0, 1000); break;
        case "cost": over.cost = number(0, 99); break;
        case "tally": over.tallies.add(number(0, 9999)); break;
        default:
          int digit = place;
          Counter one = over.counters.isEmpty() ? nobody() : over.counters.get(number(0, over.counters.size() - 1));
          if (one.isThrough()) throw new Fault(digit);
          one.inTruth(true);
      }
    }

    /** With no COUNTERS no NUMBER may be: its first digit, or what stands there instead. */
    private Counter nobody() {
      throw new Fault(place);
    }

    /** Letter by letter, as long as some word goes on so. */
    private String word() {
      int first = place;
      while (true) {
        String letters = text.substring(first, place);
        if (WORDS.contains(letters)) return letters;
        if (place == text.length()) throw new Fault(place);
        String more = text.substring(first, place + 1);
        boolean goesOn = false;
        for (String word : WORDS) goesOn |= word.startsWith(more);
        if (!goesOn) throw new Fault(place);
        place++;
      }
    }

    private void letter(char due) {
      if (place == text.length() || text.charAt(place) != due) throw new Fault(place);
      place++;
    }

    private int number(int least, int most) {
      int first = place;
      while (place < text.length() && place < first + 4 && Character.isDigit(text.charAt(place))) place++;
      if (place == first) throw new Fault(first);
      int v = Integer.parseInt(text.substring(first, place));
      if (v < least || v > most) throw new Fault(first);
      return v;
    }
  }

  int fault() {
    return fault;
  }

  // WHAT COMES OF IT, by others that stand alike

  Counter alike(int counter) {
    return state.another().counters.get(counter);
  }

  int back(int counter) {
    if (noCounter(counter)) return no(-1);
    if (who(counter).isThrough()) return no(-6);
    Counter one = alike(counter);
    one.hear();
    return one.at;
  }

  int run(int counter, int s, int n, int t, int what) {
    int no = noCounter(counter) ? -1 : rowNo(s, n, what < 0 || what > 2, t < 0 || t > 400, true);
    if (no != 0) return no(no);
    List<Integer> breaks = ints(shelves[s], n);
    Counter one = alike(counter);
    for (int second = 1; second <= t; second++) one.second(breaks.contains(second));
    return what == 0 ? one.at : what == 1 ? one.off : one.heard;
  }

  private static int through(Counter one, List<Integer> breaks) {
    for (int second = 0; second <= 400; second++) {
      if (one.isThrough()) return second;
      one.second(breaks.contains(second + 1));
    }
    return NONE;
  }

  int through(int counter, int s, int n) {
    int no = noCounter(counter) ? -1 : rowNo(s, n, false, false, true);
    return no != 0 ? no(no - 10) : through(alike(counter), ints(shelves[s], n));
  }

  /** Parts at N behind 0, 1, .. t SECONDS; those elsewhere by AT and by what HEARD leaves over, from one that is set to stand so. */
  private static int[] chances(Counter one, int t) {
    State in = one.in;
    int a = one.a;
    int[][] parts = new int[in.n + 1][a + 1];
    parts[one.at][one.rest()] = 1000000;
    int[] chances = new int[t + 1];
    chances[0] = one.isThrough() ? 1000000 : 0;
    int arrived = chances[0];
    for (int second = 1; second <= t; second++) {
      int[][] next = new int[in.n + 1][a + 1];
      for (int at = 0; at < in.n; at++) {
        for (int rest = 0; rest <= a; rest++) {
          int all = parts[at][rest];
          if (all == 0) continue;
          int broken = (int) ((long) all * in.odds / 1000);
          one.at = at;
          one.heard = rest;
          one.hear();
          next[one.at][one.rest()] += broken;
          if (at + 1 == in.n) arrived += all - broken;
          else next[at + 1][rest] += all - broken;
        }
      }
      parts = next;
      chances[second] = arrived;
    }
    return chances;
  }

  int chance(int counter, int t) {
    if (noCounter(counter)) return no(-1);
    if (t < 0 || t > 400) return no(-6);
    return chances(alike(counter), t)[t];
  }

  private static int median(Counter one, int c) {
    int[] chances = chances(one, 400);
    for (int second = 0; second <= 400; second++) if (chances[second] >= c) return second;
    return NONE;
  }

  int median(int counter, int c) {
    if (noCounter(counter)) return no(-11);
    if (c < 1 || c > 1000000) return no(-16);
    return median(alike(counter), c);
  }

  int bestApart(int counter, int c) {
    if (noCounter(counter)) return no(-11);
    if (!(who(counter) instanceof Marker)) return no(-12);
    if (c < 1 || c > 1000000) return no(-16);
    int best = NONE;
    int least = 0;
    for (int apart = 1; apart <= state.n; apart++) {
      Counter one = alike(counter);
      one.in.apart = apart;
      int sum = median(one, c);
      if (sum == NONE) continue;
      for (int mark = 1; mark <= state.n; mark++) if (mark % apart == 0) sum += state.cost;
      if (best != NONE && sum >= least) continue;
      best = apart;
      least = sum;
    }
    return best;
  }

  int when(int counter, int t, int what) {
    if (noCounter(counter)) return no(-1);
    if (what != 0 && what != 1) return no(-5);
    if (t < 1 || t > 100 || who(counter).isThrough()) return no(-6);
    Map<Integer, Integer> through = new HashMap<>();
    for (int second = 1; second <= t; second++) through.put(second, through(alike(counter), List.of(second)));
    int least = through.values().stream().min(Integer::compare).get();
    int most = through.values().stream().max(Integer::compare).get();
    int found = NONE;
    for (int second = 1; second <= t; second++) {
      if (what == 0 && through.get(second) == least) found = second;
      if (what == 1 && through.get(second) == most && found == NONE) found = second;
    }
    return found;
  }

  /** All ways that one can stand behind t SECONDS by at most so many breaks: AT, and how many breaks there were. */
  private Set<List<Integer>> ways(int counter, Set<List<Integer>> before, int most) {
    Counter one = alike(counter);
    int heard = one.heard;
    Set<List<Integer>> ways = new HashSet<>();
    for (List<Integer> way : before) {
      for (int isBreak = 0; isBreak <= 1; isBreak++) {
        if (way.get(1) + isBreak > most) continue;
        one.at = way.get(0);
        one.heard = heard + way.get(1);
        if (one.isThrough()) continue;
        one.second(isBreak == 1);
        ways.add(List.of(one.at, way.get(1) + isBreak));
      }
    }
    return ways;
  }

  int longest(int counter, int b) {
    if (noCounter(counter)) return no(-11);
    if (b < 0 || b > 5) return no(-16);
    Set<List<Integer>> ways = Set.of(List.of(who(counter).at, 0));
    int seconds = 0;
    for (; seconds <= 400; seconds++) {
      // Each that isn't through yet comes through some time.
      ways = ways(counter, ways, b);
      if (ways.isEmpty()) return seconds;
    }
    return NONE;
  }

  int fits(int counter, int t) {
    if (noCounter(counter)) return no(-11);
    if (t < 0 || t > 100) return no(-16);
    Set<List<Integer>> ways = Set.of(List.of(who(counter).at, 0));
    for (int second = 1; second <= t; second++) ways = ways(counter, ways, 8);
    int fewest = NONE;
    for (List<Integer> way : ways) {
      if (way.get(0) == state.n && (fewest == NONE || way.get(1) < fewest)) fewest = way.get(1);
    }
    return fewest;
  }

  // Told evenings

  /** The first WRONG; else minus how many breaks there were, and 2 less. */
  private int told(int counter, List<Integer> said) {
    Counter one = alike(counter);
    int breaks = 0;
    for (int i = 0; i < said.size(); i++) {
      if (one.isThrough()) return i;
      Counter other = alike(counter);
      other.at = one.at;
      other.heard = one.heard;
      other.hear();
      if (said.get(i) == one.at + 1) {
        one.at++;
      } else if (said.get(i) == other.at) {
        one = other;
        breaks++;
      } else {
        return i;
      }
    }
    return -2 - breaks;
  }

  int judge(int counter, int s, int n) {
    int no = noCounter(counter) ? -1 : rowNo(s, n, false, false, false);
    return no != 0 ? no(no - 10) : Math.max(NONE, told(counter, ints(shelves[s], n)));
  }

  int breaks(int counter, int s, int n) {
    int no = noCounter(counter) ? -1 : rowNo(s, n, false, false, false);
    if (no != 0) return no(no);
    int told = told(counter, ints(shelves[s], n));
    return told >= 0 ? no(-6) : -2 - told;
  }

  // Compared

  int quickest(int s, int n) {
    int no = rowNo(s, n, false, false, true);
    if (no != 0) return no(no - 10);
    for (int least = 0; least <= 400; least++) {
      for (Counter one : state.counters) if (through(alike(one.number), ints(shelves[s], n)) == least) return one.number;
    }
    return NONE;
  }

  int surest(int t) {
    if (state.counters.isEmpty()) return no(-5);
    if (t < 0 || t > 400) return no(-6);
    List<Integer> chances = new ArrayList<>();
    for (Counter one : state.counters) chances.add(chances(alike(one.number), t)[t]);
    return chances.indexOf(chances.stream().max(Integer::compare).get());
  }

  private static Map<Integer, Integer> firsts(Counter one, List<Integer> breaks) {
    Map<Integer, Integer> firsts = new HashMap<>();
    firsts.put(one.at, one.at + one.off);
    for (int second = 1; second <= 400; second++) {
      one.second(breaks.contains(second));
      firsts.putIfAbsent(one.at, one.at + one.off);
    }
    return firsts;
  }

  int parted(int counter, int other, int s, int t, int m) {
    if (noCounter(counter) || noCounter(other) || noShelf(s) || noShelf(t)) return no(-11);
    if (shelves[s] instanceof Counter || shelves[t] instanceof Counter) return no(-12);
    if (shelves[s] == null || shelves[t] == null) return no(-13);
    if (counter == other || m < 1 || m > 200) return no(-16);
    if (rowNo(s, null, false, false, true) != 0 || rowNo(t, null, false, false, true) != 0) return no(-16);
    Map<Integer, Integer> own = firsts(alike(counter), ints(shelves[s], length(shelves[s])));
    Map<Integer, Integer> its = firsts(alike(other), ints(shelves[t], length(shelves[t])));
    for (int number = m; number <= state.n; number++) {
      if (number % m == 0 && !java.util.Objects.equals(own.get(number), its.get(number))) return number;
    }
    return NONE;
  }

  // TALLIES

  int tally(int v) {
    if (v < 0 || v > 9999) return no(-6);
    if (state.tallies.size() == 8) return no(-7);
    state.tallies.add(v);
    return state.tallies.size();
  }

  private boolean allButOneAtMost(int v) {
    int others = 0;
    for (int tally : state.tallies) if (tally != v) others++;
    return others <= 1;
  }

  private int liar() {
    for (int i = 0; i < state.tallies.size() && state.tallies.size() >= 3; i++) {
      List<Integer> others = new ArrayList<>(state.tallies);
      int own = others.remove(i);
      if (new HashSet<>(others).size() == 1 && others.get(0) != own) return i;
    }
    return NONE;
  }

  int tallies(int what) {
    int[] sorted = state.tallies.stream().mapToInt(Integer::intValue).sorted().toArray();
    if (what == 0) return Arrays.stream(sorted).filter(this::allButOneAtMost).findFirst().orElse(NONE);
    if (what == 1) return liar();
    if (what == 2) return sorted.length == 0 ? 0 : sorted[sorted.length - 1] - sorted[0];
    if (what == 3) return sorted.length;
    if (what < 10 || what >= 10 + sorted.length) return no(-15);
    return state.tallies.get(what - 10);
  }

  int forget() {
    int many = state.tallies.size();
    state.tallies.clear();
    return many;
  }

  // IN TRUTH

  int knits(int counter, int n) {
    if (noCounter(counter)) return no(-1);
    if (n < 1 || n > 100) return no(-6);
    for (int i = 0; i < n; i++) who(counter).inTruth(false);
    return who(counter).at;
  }

  int asks(int counter) {
    if (noCounter(counter)) return no(-1);
    if (who(counter).isThrough()) return no(-6);
    who(counter).inTruth(true);
    return who(counter).at;
  }

  int again(int counter) {
    if (noCounter(counter)) return no(-1);
    Counter one = who(counter);
    int ahead = one.at;
    one.at = one.off = one.heard = 0;
    return ahead;
  }

  int evenings(int n) {
    if (state.counters.isEmpty()) return no(-5);
    if (n < 1 || n > 5) return no(-6);
    int ahead = state.done;
    for (int i = 0; i < n; i++) state.evening();
    return state.done - ahead;
  }

  int seed(int v) {
    int was = state.seed;
    state.seed = v;
    return was;
  }

  int act(int counter, int act, int x) {
    state.trace.clear();
    if (noCounter(counter) || act < 0 || act > 2) return 0;
    Counter one = who(counter);
    return act == 0 ? one.counts(x) : act == 1 ? one.asks(x) : one.ends(x);
  }

  int trace(int i) {
    return i < 0 || i >= 20 || i >= state.trace.size() ? NONE : state.trace.get(i);
  }

  int image() {
    image = state.another();
    return image.counters.size();
  }

  int restore() {
    if (image == null) return no(-6);
    adopt(image.another());
    return state.counters.size();
  }

  int status(int what) {
    if (what >= 11 && what <= 17) return refused[what - 10];
    int through = 0;
    for (Counter one : state.counters) if (one.isThrough()) through++;
    int[] all = {state.counters.size(), through, state.n, state.apart, state.odds, state.cost, state.done, state.seed, state.trace.size()};
    return what < 0 || what >= all.length ? NONE : all[what];
  }
}
