import java.util.ArrayList;
import java.util.HashMap;
import java.util.List;
import java.util.Map;
import java.util.Random;

/** What comes of it, against the plainest telling of the document's words, over many rooms. */
public final class PlainTest {
  private static final Dues dues = new Dues();
  private static final Random random = new Random(20261118);

  private record Stand(int at, int off, int heard) {}

  private record Plain(int kind, int a, int n, int apart, int odds, int cost, Stand stand) {
    Stand hear(Stand s) {
      int heard = s.heard + 1;
      int mark = 0;
      for (int i = 0; i <= s.at; i++) if (i % apart == 0) mark = i;
      int at = s.at;
      int off = s.off;
      if (kind == 0) at = 0;
      if (kind == 1) at = mark;
      if (kind == 2) off += a + 1;
      if (kind == 3) {
        while (at % (a + 2) != 0) at--;
        off++;
      }
      if (kind == 4 && heard % (a + 1) == 0) at = 0;
      if (kind == 5 && at > mark + a) at = mark;
      if (kind == 6 && heard % (a + 1) == 0) at = at / 2;
      return new Stand(at, off, heard);
    }

    Stand second(Stand s, boolean isBreak) {
      if (s.at == n) return s;
      return isBreak ? hear(s) : new Stand(s.at + 1, s.off, s.heard);
    }

    Plain apart(int other) {
      return new Plain(kind, a, n, other, odds, cost, stand);
    }

    int through(List<Integer> breaks) {
      Stand s = stand;
      for (int t = 0; t <= 400; t++) {
        if (s.at == n) return t;
        s = second(s, breaks.contains(t + 1));
      }
      return -1;
    }

    /** Parts at N behind 0 to t SECONDS. */
    int[] chances(int t) {
      int[] parts = new int[t + 1];
      Map<Stand, Integer> now = new HashMap<>();
      now.put(rest(stand), 1000000);
      for (int second = 0; second <= t; second++) {
        Map<Stand, Integer> next = new HashMap<>();
        for (Map.Entry<Stand, Integer> one : now.entrySet()) {
          Stand s = one.getKey();
          int all = one.getValue();
          if (s.at == n) parts[second] += all;
          int broken = s.at == n ? 0 : (int) ((long) all * odds / 1000);
          next.merge(rest(second(s, true)), broken, Integer::sum);
          next.merge(rest(second(s, false)), all - broken, Integer::sum);
        }
        now = next;
      }
      return parts;
    }

    private Stand rest(Stand s) {
      return new Stand(s.at, 0, kind == 4 || kind == 6 ? s.heard % (a + 1) : 0);
    }

    int median(int c) {
      int[] parts = chances(400);
      for (int t = 0; t <= 400; t++) if (parts[t] >= c) return t;
      return -1;
    }

    int bestApart(int c) {
      int best = -1;
      int least = 0;
      for (int other = 1; other <= n; other++) {
        int seconds = apart(other).median(c);
        if (seconds < 0) continue;
        int sum = seconds;
        for (int i = 1; i <= n; i++) if (i % other == 0) sum += cost;
        if (best < 0 || sum < least) {
          best = other;
          least = sum;
        }
      }
      return best;
    }

    int when(int t, int what) {
      int found = 0;
      int of = 0;
      for (int s = 1; s <= t; s++) {
        int seconds = through(List.of(s));
        if (found == 0 || what == 0 && seconds <= of || what == 1 && seconds > of) {
          found = s;
          of = seconds;
        }
      }
      return found;
    }

    /** All THROUGHS by so many breaks at most, told with how many; each SECOND either way. */
    void all(Stand s, int seconds, int broken, int most, int until, int[] fewest) {
      if (seconds > until) return;
      if (s.at == n) {
        if (fewest[seconds] < 0 || broken < fewest[seconds]) fewest[seconds] = broken;
        return;
      }
      all(second(s, false), seconds + 1, broken, most, until, fewest);
      if (broken < most) all(second(s, true), seconds + 1, broken + 1, most, until, fewest);
    }

    int[] fewest(int most, int until) {
      int[] fewest = new int[until + 1];
      java.util.Arrays.fill(fewest, -1);
      all(stand, 0, 0, most, until, fewest);
      return fewest;
    }

    Integer sumFirstAt(int number, List<Integer> breaks) {
      Stand s = stand;
      for (int t = 0; t <= 400; t++) {
        if (s.at == number) return s.at + s.off;
        s = second(s, breaks.contains(t + 1));
      }
      return null;
    }
  }

  public static void main(String[] args) {
    for (int i = 0; i < 400; i++) chances(1 + random.nextInt(30));
    for (int i = 0; i < 20; i++) chances(150 + random.nextInt(51));
    for (int i = 0; i < 60; i++) bestAparts(1 + random.nextInt(25));
    bestAparts(120);
    for (int i = 0; i < 300; i++) anyBreaks(1 + random.nextInt(7));
    for (int i = 0; i < 300; i++) whens(1 + random.nextInt(60));
    for (int i = 0; i < 300; i++) runs(1 + random.nextInt(40));
    for (int i = 0; i < 30; i++) runs(150 + random.nextInt(51));
    for (int i = 0; i < 2000; i++) told(2 + random.nextInt(30));
    dues.end();
  }

  /** An evening as it may have been, or with a number another. */
  private static void told(int n) {
    WhatDidYouSay x = room(n);
    Plain one = add(x, random.nextInt(7), n);
    int many = random.nextInt(41);
    x.row(0, 2, many);
    Stand s = one.stand;
    int wrong = -1;
    for (int i = 0; i < many; i++) {
      boolean isBreak = random.nextInt(3) == 0;
      int said = one.second(s, isBreak).at;
      if (random.nextInt(40) == 0) said = random.nextInt(n + 3);
      x.set(0, i, said);
      if (wrong >= 0) continue;
      if (s.at < n && said == s.at + 1) s = one.second(s, false);
      else if (s.at < n && said == one.hear(s).at) s = one.hear(s);
      else wrong = i;
    }
    dues.due(one + " judge", x.judge(0, 0, many), wrong);
    dues.due(one + " breaks", x.breaks(0, 0, many), wrong >= 0 ? -6 : s.heard - one.stand.heard);
  }

  private static final int[] SOME_ODDS = {0, 1, 100, 333, 500, 900, 999, 1000};

  /** A new COUNTER in the room: how it stands. */
  private static Plain add(WhatDidYouSay x, int kind, int n) {
    int number = x.counter(kind, random.nextInt(10));
    int hears = random.nextInt(5);
    for (int i = 0; i < hears && n > 1; i++) {
      x.put(number, random.nextInt(n));
      if (x.counterOf(number, 2) < n) x.asks(number);
    }
    x.put(number, random.nextInt(3) == 0 ? 0 : random.nextInt(20) == 0 ? n : random.nextInt(n + 1));
    return told(x, number);
  }

  private static Plain told(WhatDidYouSay x, int number) {
    Stand stand = new Stand(x.counterOf(number, 2), x.counterOf(number, 3), x.counterOf(number, 4));
    return new Plain(x.counterOf(number, 0), x.counterOf(number, 1), x.status(2), x.status(3), x.status(4), x.status(5), stand);
  }

  private static WhatDidYouSay room(int n) {
    WhatDidYouSay x = new WhatDidYouSay();
    x.ask(0, n);
    x.ask(1, 1 + random.nextInt(n + 2 > 200 ? 200 : n + 2));
    x.ask(2, SOME_ODDS[random.nextInt(SOME_ODDS.length)]);
    x.ask(3, random.nextInt(3) == 0 ? random.nextInt(100) : random.nextInt(3));
    return x;
  }

  private static void chances(int n) {
    WhatDidYouSay x = room(n);
    Plain[] all = new Plain[1 + random.nextInt(6)];
    int t = random.nextInt(4) == 0 ? random.nextInt(401) : random.nextInt(60);
    int surest = 0;
    int[] parts = new int[all.length];
    for (int i = 0; i < all.length; i++) {
      all[i] = add(x, random.nextInt(7), n);
      parts[i] = all[i].chances(t)[t];
      if (parts[i] > parts[surest]) surest = i;
      int c = random.nextBoolean() ? 1 + random.nextInt(1000000) : Math.max(1, parts[i]);
      dues.due(all[i] + " chance " + t, x.chance(i, t), parts[i]);
      dues.due(all[i] + " median " + c, x.median(i, c), all[i].median(c));
    }
    dues.due("surest", x.surest(t), surest);
    for (int i = 0; i < all.length; i++) dues.due("nothing is changed", told(x, i).equals(all[i]) ? 1 : 0, 1);
  }

  private static void bestAparts(int n) {
    WhatDidYouSay x = room(n);
    Plain one = add(x, random.nextBoolean() ? 1 : 5, n);
    int c = 1 + random.nextInt(1000000);
    dues.due(one + " bestApart " + c, x.bestApart(0, c), one.bestApart(c));
  }

  private static void anyBreaks(int n) {
    WhatDidYouSay x = room(n);
    Plain one = add(x, random.nextInt(7), n);
    int b = random.nextInt(n > 4 ? 4 : 6);
    int[] fewest = one.fewest(b, 7 * n);
    int longest = 7 * n;
    while (fewest[longest] < 0) longest--;
    dues.due(one + " longest " + b, x.longest(0, b), longest);
    fewest = one.fewest(8, 15);
    for (int t = 0; t <= 15; t++) dues.due(one + " fits " + t, x.fits(0, t), fewest[t]);
  }

  private static void whens(int n) {
    WhatDidYouSay x = room(n);
    Plain one = add(x, random.nextInt(7), n);
    if (one.stand.at == n) return;
    for (int what = 0; what < 2; what++) {
      int t = 1 + random.nextInt(100);
      dues.due(one + " when " + t + " " + what, x.when(0, t, what), one.when(t, what));
    }
  }

  private static List<Integer> seconds(WhatDidYouSay x, int s, int n) {
    List<Integer> breaks = new ArrayList<>();
    int second = 0;
    int many = random.nextInt(41);
    int steps = 1 + random.nextInt(random.nextBoolean() ? 4 : n + 10);
    for (int i = 0; i < many; i++) {
      second += 1 + random.nextInt(steps);
      breaks.add(second);
    }
    x.row(s, 2, many);
    for (int i = 0; i < many; i++) x.set(s, i, breaks.get(i));
    return breaks;
  }

  private static void runs(int n) {
    WhatDidYouSay x = room(n);
    List<Integer> own = seconds(x, 0, n);
    List<Integer> other = seconds(x, 1, n);
    Plain[] all = new Plain[2 + random.nextInt(5)];
    int quickest = -1;
    int least = 401;
    for (int i = 0; i < all.length; i++) {
      all[i] = add(x, random.nextInt(7), n);
      int seconds = all[i].through(own);
      dues.due(all[i] + " through " + own, x.through(i, 0, own.size()), seconds);
      if (seconds >= 0 && seconds < least) {
        quickest = i;
        least = seconds;
      }
      int t = random.nextInt(401);
      Stand s = all[i].stand;
      for (int second = 1; second <= t; second++) s = all[i].second(s, own.contains(second));
      int[] want = {s.at, s.off, s.heard};
      for (int what = 0; what < 3; what++) dues.due(all[i] + " run " + t + " " + own, x.run(i, 0, own.size(), t, what), want[what]);
    }
    dues.due("quickest", x.quickest(0, own.size()), quickest);
    int m = 1 + random.nextInt(random.nextBoolean() ? 3 : n);
    int parted = -1;
    for (int number = n; number >= 1; number--) {
      Integer one = all[0].sumFirstAt(number, own);
      Integer two = all[1].sumFirstAt(number, other);
      boolean alike = one == null ? two == null : one.equals(two);
      if (number % m == 0 && !alike) parted = number;
    }
    dues.due(all[0] + " parted from " + all[1] + " by " + m, x.parted(0, 1, 0, 1, m), parted);
  }
}
