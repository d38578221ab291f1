import java.lang.reflect.Method;
import java.nio.file.Files;
import java.nio.file.Path;
import java.util.ArrayList;
import java.util.Arrays;
import java.util.LinkedHashMap;
import java.util.List;
import java.util.Map;
import java.util.Random;
import java.util.regex.Matcher;
import java.util.regex.Pattern;

/** Whole lives of 512 calls, each answered as the document's second telling answers it. */
public final class WholeTest {
  private static final int LIVES = 400;
  private static final int CALLS = 512;
  private static final int[] ODD = {Integer.MIN_VALUE, -1, 0, 1, 5, 6, 7, 8, 9, 10, 18, 40, 41, 100, 101, 160, 161, 200, 201, 400, 401, 1000, 1001,
      9999, 10000, 1000000, 1000001, Integer.MAX_VALUE};
  private static final Dues dues = new Dues();

  /** One call of the face: its name, and the names of its parameters as the document has them. */
  private record Call(String name, String[] parameters, Method own, Method plain) {}

  private final Random random;
  private final WhatDidYouSay x = new WhatDidYouSay();
  private final Plainly y = new Plainly();
  private final Map<String, Call> face;
  private final List<String> names;
  private final String told;
  private int calls = 0;
  private boolean astray = false;

  private WholeTest(int life, Map<String, Call> face) {
    random = new Random(life);
    this.face = face;
    names = new ArrayList<>(face.keySet());
    told = "life " + life;
  }

  public static void main(String[] args) throws Exception {
    Map<String, Call> face = face();
    dues.due("calls of the face", face.size(), 40);
    int[] refusals = new int[8];
    for (int life = 0; life < LIVES; life++) {
      WholeTest it = new WholeTest(life, face);
      it.live();
      for (int i = 1; i <= 7; i++) refusals[i] += it.x.status(10 + i);
    }
    for (int i = 1; i <= 7; i++) dues.due("REFUSALS -" + i + " came up", refusals[i] > 50 ? 1 : 0, 1);
    dues.end();
  }

  private static Map<String, Call> face() throws Exception {
    Map<String, Call> face = new LinkedHashMap<>();
    Matcher method = Pattern.compile("    public (?:int|long) (\\w+)\\(([^)]*)\\);").matcher(Files.readString(Path.of("../shared/DOC.md")));
    while (method.find()) {
      String told = method.group(2);
      String[] each = told.isEmpty() ? new String[0] : told.split(", ");
      Class<?>[] types = new Class<?>[each.length];
      String[] parameters = new String[each.length];
      for (int i = 0; i < each.length; i++) {
        types[i] = each[i].startsWith("long ") ? long.class : int.class;
        parameters[i] = each[i].substring(each[i].indexOf(' ') + 1);
      }
      String name = method.group(1);
      face.put(name, new Call(name, parameters, WhatDidYouSay.class.getMethod(name, types), Plainly.class.getDeclaredMethod(name, types)));
    }
    return face;
  }

  private void live() throws Exception {
    ask("ask", 0, new int[] {6, 12, 20, 33, 200}[random.nextInt(5)]);
    for (int i = random.nextInt(6); i > 0; i--) ask("counter", random.nextInt(7), random.nextInt(10));
    while (calls < CALLS && !astray) {
      int which = random.nextInt(30);
      if (which == 0) tellSeconds(random.nextInt(8));
      else if (which == 1) tellEvening(random.nextInt(8));
      else if (which == 2) tellText(random.nextInt(8));
      else if (which == 3) ask("put", counter(), random.nextInt(y.status(2) + 1));
      else any();
    }
  }

  private void any() throws Exception {
    Call call = face.get(names.get(random.nextInt(names.size())));
    // The plain telling takes long over these.
    boolean isDear = call.name.equals("bestApart") || call.name.equals("longest");
    if (isDear && y.status(2) > 40 && random.nextInt(30) > 0) return;
    long[] args = new long[call.parameters.length];
    for (int i = 0; i < args.length; i++) args[i] = value(call.name, call.parameters[i]);
    ask(call.name, args);
  }

  /** Of both, unless the life is at its end: what is due. */
  private long ask(String name, long... args) throws Exception {
    if (calls >= CALLS || astray) return 0;
    calls++;
    Call call = face.get(name);
    Object[] boxed = new Object[args.length];
    for (int i = 0; i < args.length; i++) {
      if (call.own.getParameterTypes()[i] == long.class) boxed[i] = args[i];
      else boxed[i] = (int) args[i];
    }
    long want = ((Number) call.plain.invoke(y, boxed)).longValue();
    long got = ((Number) call.own.invoke(x, boxed)).longValue();
    astray = got != want;
    dues.due(told + ", call " + calls + ", " + name + Arrays.toString(args), got, want);
    return want;
  }

  private int counter() {
    return random.nextInt(Math.max(1, y.status(0)));
  }

  private long value(String call, String parameter) {
    int wild = random.nextInt(40);
    if (wild == 0) return ODD[random.nextInt(ODD.length)];
    if (wild == 1) return random.nextInt();
    switch (parameter) {
      case "s": case "p": case "q": return random.nextInt(8);
      case "counter": return call.equals("show") && random.nextInt(5) == 0 ? -1 : random.nextInt(20) == 0 ? y.status(0) : counter();
      case "other": return counter();
      case "kind": return random.nextInt(7);
      case "a": return random.nextInt(10);
      case "sort": return random.nextInt(4);
      case "act": return random.nextInt(3);
      case "x": return random.nextBoolean() ? random.nextInt(100) - 50 : random.nextInt();
      case "c": return random.nextBoolean() ? 500000 : 1 + random.nextInt(1000000);
      case "b": return random.nextInt(6);
      case "m": return 1 + random.nextInt(random.nextBoolean() ? 3 : y.status(2));
      case "i": return call.equals("trace") ? random.nextInt(11) : random.nextInt(12);
      case "j": return random.nextInt(12);
      case "t": return time(call);
      case "n": return size(call);
      case "what": return what(call);
      default: return v(call);
    }
  }

  private int time(String call) {
    if (call.equals("parted")) return random.nextInt(8);
    if (call.equals("when") || call.equals("fits")) return random.nextInt(random.nextBoolean() ? 30 : 102);
    return random.nextInt(random.nextBoolean() ? 50 : 402);
  }

  private int size(String call) {
    if (call.equals("evenings")) return random.nextInt(6);
    if (call.equals("knits")) return random.nextInt(random.nextBoolean() ? 8 : 102);
    if (call.equals("row")) return random.nextInt(random.nextInt(4) == 0 ? 162 : 12);
    return random.nextInt(random.nextInt(8) == 0 ? 42 : 8);
  }

  private int what(String call) {
    if (call.equals("status")) return random.nextInt(19);
    if (call.equals("tallies")) return random.nextBoolean() ? random.nextInt(4) : 10 + random.nextInt(9);
    if (call.equals("run")) return random.nextInt(3);
    return call.equals("when") ? random.nextInt(2) : random.nextInt(5);
  }

  private long v(String call) {
    if (call.equals("set")) return random.nextInt(4) == 0 ? random.nextLong() : random.nextInt(100);
    if (call.equals("put")) return random.nextInt(y.status(2) + 2);
    if (call.equals("tally")) return 7 + random.nextInt(random.nextInt(3) == 0 ? 3 : 1);
    if (call.equals("seed")) return random.nextInt();
    return random.nextInt(random.nextBoolean() ? 40 : 1002);
  }

  private void fill(int s, int sort, List<Integer> elements) throws Exception {
    ask("row", s, sort, elements.size());
    for (int i = 0; i < elements.size(); i++) ask("set", s, i, elements.get(i));
  }

  private void tellSeconds(int s) throws Exception {
    List<Integer> seconds = new ArrayList<>();
    int second = 0;
    for (int i = random.nextInt(10); i > 0; i--) {
      second += random.nextInt(60) == 0 ? 0 : 1 + random.nextInt(12);
      seconds.add(second);
    }
    fill(s, 1 + random.nextInt(3), seconds);
    if (y.status(0) < 2) return;
    ask("through", counter(), s, seconds.size());
    ask("run", counter(), s, seconds.size(), random.nextInt(60), random.nextInt(3));
    ask("quickest", s, seconds.size());
    ask("parted", counter(), counter(), s, random.nextInt(8), 1 + random.nextInt(4));
  }

  /** Said as a COUNTER may have said it, by what the document tells of a break, and at times a number else. */
  private void tellEvening(int s) throws Exception {
    if (y.status(0) == 0) return;
    int counter = counter();
    Plainly.Counter one = y.alike(counter);
    List<Integer> said = new ArrayList<>();
    for (int i = random.nextInt(12); i > 0; i--) {
      one.second(random.nextInt(3) == 0);
      said.add(random.nextInt(30) == 0 ? random.nextInt(20) : one.at);
    }
    fill(s, 2, said);
    ask("judge", counter, s, said.size());
    ask("breaks", counter, s, said.size());
  }

  private void tellText(int s) throws Exception {
    String[] words = {"counter ", "to ", "apart ", "odds ", "cost ", "tally ", "ask "};
    StringBuilder text = new StringBuilder();
    for (int i = random.nextInt(3); i >= 0; i--) {
      String word = words[random.nextInt(words.length)];
      text.append(word).append(random.nextInt(7));
      if (word.equals("counter ")) text.append(' ').append(random.nextInt(10));
      else if (random.nextInt(4) == 0) text.append(random.nextInt(100));
      if (i > 0) text.append(';');
    }
    if (random.nextInt(6) == 0) text.setCharAt(random.nextInt(text.length()), "acop;0 x".charAt(random.nextInt(8)));
    if (random.nextInt(12) == 0) text.setLength(random.nextInt(text.length()));
    List<Integer> letters = new ArrayList<>();
    for (int i = 0; i < text.length(); i++) letters.add((int) text.charAt(i));
    fill(s, random.nextInt(4), letters);
    ask("room", s);
    ask("fault");
  }
}
