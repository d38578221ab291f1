import java.lang.reflect.Method;
import java.util.ArrayList;
import java.util.Arrays;
import java.util.Comparator;
import java.util.List;
import java.util.Random;

/** Runs of any calls whatever: none throws, all answer alike each time, and what is refused or only told changes nothing. */
public final class EnduranceTest {
  private static final Dues dues = new Dues();
  private static final List<String> CHANGING = Arrays.asList("row", "set", "copy", "show", "counter", "ask", "put", "room", "tally", "forget",
      "knits", "asks", "again", "evenings", "seed", "act", "image", "restore");
  private static final int[] ODD = {Integer.MIN_VALUE, Integer.MIN_VALUE + 1, -41, -2, -1, 0, 1, 2, 5, 6, 7, 8, 10, 17, 20, 21, 40, 41, 99, 100, 101,
      159, 160, 161, 200, 201, 399, 400, 401, 999, 1000, 1001, 9999, 10000, 1000000, 1000001, Integer.MAX_VALUE};

  public static void main(String[] args) throws Exception {
    List<Method> methods = new ArrayList<>();
    for (Method m : WhatDidYouSay.class.getDeclaredMethods()) if (java.lang.reflect.Modifier.isPublic(m.getModifiers())) methods.add(m);
    methods.sort(Comparator.comparing(Method::getName));
    for (int seed = 0; seed < 300; seed++) {
      List<Long> first = run(methods, seed, true);
      dues.due("run " + seed + " again", first.equals(run(methods, seed, false)) ? 1 : 0, 1);
    }
    dues.end();
  }

  private static List<Long> run(List<Method> methods, int seed, boolean looks) throws Exception {
    Random random = new Random(seed);
    WhatDidYouSay x = new WhatDidYouSay();
    List<Long> answers = new ArrayList<>();
    for (int i = 0; i < seed % 7; i++) x.counter((i + seed) % 7, seed % 10);
    for (int call = 0; call < 500; call++) {
      Method m = methods.get(random.nextInt(methods.size()));
      Object[] args = new Object[m.getParameterCount()];
      for (int i = 0; i < args.length; i++) {
        int v = value(random, seed % 3);
        args[i] = m.getParameterTypes()[i] == long.class ? (Object) (long) v : (Object) v;
      }
      if (m.getName().equals("room") && random.nextInt(4) > 0) args[0] = text(x, random);
      List<Long> before = looks ? state(x) : null;
      int refusals = looks ? refusals(x) : 0;
      long answer = ((Number) m.invoke(x, args)).longValue();
      answers.add(answer);
      if (!looks) continue;
      boolean refused = refusals(x) > refusals;
      String told = "run " + seed + ", call " + call + ", " + m.getName() + Arrays.toString(args);
      if (refused) dues.due(told + " refused by", answer < 0 && answer > -17 ? 1 : 0, 1);
      if (refused || !CHANGING.contains(m.getName())) dues.due(told + " changed nothing", state(x).equals(before) ? 1 : 0, 1);
      dues.due(told + " within bounds", sound(x) ? 1 : 0, 1);
    }
    return answers;
  }

  private static int value(Random random, int wild) {
    int which = random.nextInt(8);
    if (which == 0) return ODD[random.nextInt(ODD.length)];
    if (which == 1 && wild == 0) return random.nextInt();
    return which < 4 ? random.nextInt(40) : random.nextInt(7);
  }

  private static int text(WhatDidYouSay x, Random random) {
    String[] items = {"counter 1 2", "to 17", "apart 3", "odds 500", "cost 2", "tally 5", "ask 0", "ask 1", "to 30", "tox", "counter 8 8"};
    StringBuilder text = new StringBuilder(items[random.nextInt(items.length)]);
    for (int i = random.nextInt(4); i > 0; i--) text.append(';').append(items[random.nextInt(items.length)]);
    Dues.text(x, 5, text.toString());
    return 5;
  }

  private static int refusals(WhatDidYouSay x) {
    int sum = 0;
    for (int which = 11; which <= 17; which++) sum += x.status(which);
    return sum;
  }

  /** All that can be asked for but REFUSALS, the FAULT, and what counterOf() and tallies() would refuse. */
  private static List<Long> state(WhatDidYouSay x) {
    List<Long> state = new ArrayList<>();
    for (int what = 0; what < 9; what++) state.add((long) x.status(what));
    for (int i = 0; i < x.status(0); i++) for (int what = 0; what < 5; what++) state.add((long) x.counterOf(i, what));
    for (int i = 0; i < 4; i++) state.add((long) x.tallies(i));
    for (int i = 0; i < x.tallies(3); i++) state.add((long) x.tallies(10 + i));
    for (int s = 0; s < 8; s++) {
      state.add((long) x.holds(s));
      for (int i = 0; i < 160; i++) state.add(x.element(s, i));
    }
    for (int i = 0; i < 20; i++) state.add((long) x.trace(i));
    return state;
  }

  private static boolean sound(WhatDidYouSay x) {
    int n = x.status(2);
    boolean sound = n >= 1 && n <= 200 && x.status(3) >= 1 && x.status(3) <= 200 && x.status(4) >= 0 && x.status(4) <= 1000;
    sound &= x.status(5) >= 0 && x.status(5) <= 99 && x.status(0) <= 6 && x.tallies(3) <= 8;
    for (int i = 0; i < x.status(0); i++) {
      sound &= x.counterOf(i, 2) >= 0 && x.counterOf(i, 2) <= n && x.counterOf(i, 3) >= 0 && x.counterOf(i, 4) >= 0;
    }
    for (int s = 0; s < 8; s++) {
      int holds = x.holds(s);
      sound &= holds == -1 || holds >= 100 && holds <= 103 || holds >= 0 && holds < x.status(0);
    }
    return sound;
  }
}
