import java.lang.reflect.Constructor;
import java.lang.reflect.Field;
import java.lang.reflect.Method;
import java.lang.reflect.Modifier;
import java.nio.file.Files;
import java.nio.file.Path;
import java.util.Arrays;
import java.util.TreeSet;
import java.util.regex.Matcher;
import java.util.regex.Pattern;

/** The public face as the document has it, and the rules of LANGUAGE.md that a look at the text can tell. */
public final class FaceTest {
  private static final Dues dues = new Dues();

  public static void main(String[] args) throws Exception {
    face();
    language(Files.readString(Path.of("src/main/java/WhatDidYouSay.java")));
    dues.end();
  }

  private static void face() throws Exception {
    Class<?> face = WhatDidYouSay.class;
    dues.due("public final", face.getModifiers(), Modifier.PUBLIC | Modifier.FINAL);
    TreeSet<String> want = new TreeSet<>();
    Matcher block = Pattern.compile("public final class WhatDidYouSay \\{(.*?)\\n\\}", Pattern.DOTALL)
        .matcher(Files.readString(Path.of("../shared/DOC.md")));
    dues.due("the document's face", block.find() ? 1 : 0, 1);
    Matcher method = Pattern.compile("public (int|long) (\\w+)\\(([^)]*)\\);").matcher(block.group(1));
    while (method.find()) {
      String types = method.group(3).replaceAll("(int|long) \\w+", "$1").replace(" ", "");
      want.add(method.group(1) + " " + method.group(2) + "(" + types + ")");
    }
    TreeSet<String> got = new TreeSet<>();
    TreeSet<String> hidden = new TreeSet<>();
    for (Method m : face.getDeclaredMethods()) {
      if (Modifier.isPrivate(m.getModifiers())) {
        hidden.add(m.getName());
        continue;
      }
      StringBuilder types = new StringBuilder();
      for (Class<?> type : m.getParameterTypes()) types.append(types.length() == 0 ? "" : ",").append(type.getName());
      got.add(m.getReturnType().getName() + " " + m.getName() + "(" + types + ")");
      dues.due(m.getName() + " is public alone", m.getModifiers(), Modifier.PUBLIC);
    }
    dues.due("40 methods", want.size(), 40);
    if (!got.equals(want)) System.out.println("methods " + got + ", due are " + want);
    dues.due("the methods", got.equals(want) ? 1 : 0, 1);
    for (String name : hidden) dues.due("private " + name + " bears a public name", bears(want, name) ? 1 : 0, 0);
    for (Constructor<?> c : face.getDeclaredConstructors()) {
      dues.due("the constructor", c.getModifiers() == Modifier.PUBLIC && c.getParameterCount() == 0 ? 1 : 0, 1);
    }
    for (Field f : face.getDeclaredFields()) {
      boolean isNone = f.getName().equals("NONE");
      int fits = isNone ? Modifier.PUBLIC | Modifier.STATIC | Modifier.FINAL : f.getModifiers() | Modifier.PRIVATE;
      dues.due("field " + f.getName(), f.getModifiers(), fits);
      if (Modifier.isStatic(f.getModifiers())) dues.due("static " + f.getName() + " is final", Modifier.isFinal(f.getModifiers()) ? 1 : 0, 1);
    }
    for (Class<?> inside : face.getDeclaredClasses()) {
      dues.due(inside.getName() + " is static, not public", inside.getModifiers() & (Modifier.STATIC | Modifier.PUBLIC | Modifier.PROTECTED), Modifier.STATIC);
      for (Method m : inside.getDeclaredMethods()) {
        dues.due(m.getName() + " inside bears a public name", bears(want, m.getName()) ? 1 : 0, 0);
        dues.due(m.getName() + " takes at most seven", Math.max(7, m.getParameterCount()), 7);
      }
      int fields = 0;
      for (Field f : inside.getDeclaredFields()) if (!Modifier.isStatic(f.getModifiers())) fields++;
      dues.due(inside.getName() + " has some twenty fields", Math.max(20, fields), 20);
    }
    dues.due("some twelve classes", Math.max(11, face.getDeclaredClasses().length), 11);
    dues.due("NONE", WhatDidYouSay.NONE, -1);
  }

  private static boolean bears(TreeSet<String> face, String name) {
    for (String one : face) {
      if (one.contains(" " + name + "(")) return true;
    }
    return false;
  }

  private static void language(String text) {
    String code = text.replaceAll("(?s)/\\*.*?\\*/", "").replaceAll("//[^\\n]*", "").replaceAll("\"[^\"\\n]*\"", "\"\"");
    for (String word : Arrays.asList("throw", "throws", "try", "catch", "finally", "synchronized", "assert", "record", "volatile",
        "transient", "native", "package", "hashCode", "toString", "System.out", "System.nanoTime", "System.currentTimeMillis",
        "Random", "Thread", "Object", "float", "var")) {
      dues.due("the word " + word, Pattern.compile("\\b" + Pattern.quote(word) + "\\b").matcher(code).find() ? 1 : 0, 0);
    }
    for (String sign : Arrays.asList("->", "::", "Exact(", "@", "\"\" +", "+ \"\"")) dues.due("the sign " + sign, code.contains(sign) ? 1 : 0, 0);
    Matcher imports = Pattern.compile("import ([^;]*);").matcher(code);
    while (imports.find()) {
      dues.due("import " + imports.group(1), imports.group(1).matches("java\\.util\\.(Arrays|ArrayList|List|Iterator)") ? 1 : 0, 1);
    }
    Matcher library = Pattern.compile("\\b(Arrays|System)\\.(\\w+)").matcher(code);
    while (library.find()) {
      dues.due("call of " + library.group(), library.group(2).matches("fill|copyOf|copyOfRange|arraycopy|Arrays") ? 1 : 0, 1);
    }
    for (int i = 0; i < text.length(); i++) {
      if (text.charAt(i) > 126) dues.due("sign at " + i, text.charAt(i), 0);
    }
  }
}
