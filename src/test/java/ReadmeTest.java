import java.io.File;
import java.io.IOException;
import java.lang.reflect.Method;
import java.lang.reflect.Modifier;
import java.nio.file.Files;
import java.nio.file.Path;
import java.util.ArrayList;
import java.util.Comparator;
import java.util.List;
import java.util.TreeSet;
import java.util.concurrent.TimeUnit;
import java.util.regex.Matcher;
import java.util.regex.Pattern;
import java.util.stream.Collectors;
import java.util.stream.Stream;

/** README.md tells the truth: its example and its commands are run as they stand there, and its tables are whole. */
public final class ReadmeTest {
  private static final Dues dues = new Dues();

  public static void main(String[] args) throws Exception {
    String page = Files.readString(Path.of("README.md"));
    Path folder = Files.createTempDirectory("readme");
    try {
      // A checkout of its own, so that what the commands leave behind is gone with it.
      Path checkout = folder.resolve("checkout");
      copy(Path.of("src"), checkout.resolve("src"));
      copy(Path.of("../shared"), folder.resolve("shared"));
      commands(page, checkout);
    } finally {
      remove(folder);
    }
    calls(page);
    names(page, "class inside", classesInside());
    names(page, "test", tests());
    dues.end();
  }

  private static void commands(String page, Path checkout) throws Exception {
    List<String> example = blocks(page, "java");
    List<String> commands = blocks(page, "sh");
    List<String> prints = blocks(page, "text");
    dues.due("examples", example.size(), 1);
    dues.due("blocks of commands", commands.size(), 2);
    dues.due("blocks of what is printed", prints.size(), 1);
    Matcher name = Pattern.compile("This is `(\\w+\\.java)`").matcher(page);
    dues.due("the example has a name", name.find() ? 1 : 0, 1);
    Files.writeString(checkout.resolve(name.group(1)), example.get(0));
    same("the example prints", run(commands.get(0), checkout), prints.get(0));
    run(commands.get(1), checkout);
  }

  private static List<String> blocks(String page, String kind) {
    List<String> blocks = new ArrayList<>();
    Matcher block = Pattern.compile("(?ms)^```" + kind + "\\n(.*?)^```$").matcher(page);
    while (block.find()) blocks.add(block.group(1));
    return blocks;
  }

  /** What the commands print; all have to end well. */
  private static String run(String commands, Path folder) throws IOException, InterruptedException {
    File printed = folder.resolve("printed").toFile();
    // Apart from what is printed: a machine may say there what options it has taken up.
    File warned = folder.resolve("warned").toFile();
    Process shell = new ProcessBuilder("sh", "-e", "-c", commands).directory(folder.toFile()).redirectOutput(printed).redirectError(warned).start();
    boolean ended = shell.waitFor(5, TimeUnit.MINUTES);
    if (!ended) shell.destroyForcibly();
    String told = Files.readString(printed.toPath());
    boolean well = ended && shell.exitValue() == 0;
    dues.due("the commands end well", well ? 1 : 0, 1);
    if (!well) System.out.println(commands + told + Files.readString(warned.toPath()));
    return told;
  }

  private static void same(String what, String got, String want) {
    String[] gotLines = got.split("\n");
    String[] wantLines = want.split("\n");
    dues.due(what + " so many lines", gotLines.length, wantLines.length);
    for (int i = 0; i < Math.min(gotLines.length, wantLines.length); i++) {
      dues.due(what + " \"" + gotLines[i] + "\" where the page has \"" + wantLines[i] + "\"", gotLines[i].equals(wantLines[i]) ? 1 : 0, 1);
    }
  }

  /** Each call of the face stands in the page's table once, in the line of its promise. */
  private static void calls(String page) throws IOException {
    List<String> heads = new ArrayList<>(List.of("WhatDidYouSay"));
    Matcher promise = Pattern.compile("(?m)^## Promise (\\d+): (\\w+)$").matcher(Files.readString(Path.of("../shared/DOC.md")));
    while (promise.find()) heads.add(promise.group(2));
    List<String> told = new ArrayList<>(List.of("WhatDidYouSay"));
    for (String line : table(page, "what for")) {
      String[] cells = line.split("\\|");
      Matcher numbers = Pattern.compile("(\\d+)").matcher(cells[3]);
      List<Integer> each = new ArrayList<>();
      while (numbers.find()) each.add(Integer.parseInt(numbers.group(1)));
      List<String> calls = quoted(cells[2]);
      dues.due("first promise of" + cells[1], each.get(0), told.size() + 1);
      told.addAll(calls);
      dues.due("last promise of" + cells[1], each.get(each.size() - 1), told.size());
    }
    // The first promise is the constructor, whose head is no name.
    dues.due("the calls in the order of the promises", told.equals(heads) ? 1 : 0, 1);
    TreeSet<String> face = new TreeSet<>();
    for (Method one : WhatDidYouSay.class.getDeclaredMethods()) if (Modifier.isPublic(one.getModifiers())) face.add(one.getName());
    dues.due("all calls of the face", new TreeSet<>(told.subList(1, told.size())).equals(face) ? 1 : 0, 1);
  }

  private static List<String> table(String page, String head) {
    Matcher table = Pattern.compile("(?m)^\\| " + head + " \\|.*\\n\\|[-| ]*\\n((?:\\|.*\\n)*)").matcher(page);
    dues.due("the table of " + head, table.find() ? 1 : 0, 1);
    return List.of(table.group(1).split("\n"));
  }

  private static List<String> quoted(String cell) {
    List<String> quoted = new ArrayList<>();
    Matcher one = Pattern.compile("`(\\w+)`").matcher(cell);
    while (one.find()) quoted.add(one.group(1));
    return quoted;
  }

  private static void names(String page, String head, TreeSet<String> want) {
    TreeSet<String> got = new TreeSet<>();
    for (String line : table(page, head)) got.addAll(quoted(line.split("\\|")[1]));
    dues.due("the table of " + head + " has " + got + ", due are " + want, got.equals(want) ? 1 : 0, 1);
  }

  private static TreeSet<String> classesInside() {
    TreeSet<String> names = new TreeSet<>();
    for (Class<?> one : WhatDidYouSay.class.getDeclaredClasses()) names.add(one.getSimpleName());
    return names;
  }

  private static TreeSet<String> tests() throws IOException {
    try (Stream<Path> files = Files.list(Path.of("src/test/java"))) {
      return files.map(one -> one.getFileName().toString()).filter(one -> one.endsWith("Test.java"))
          .map(one -> one.substring(0, one.length() - 5)).collect(Collectors.toCollection(TreeSet::new));
    }
  }

  private static void copy(Path from, Path to) throws IOException {
    try (Stream<Path> all = Files.walk(from)) {
      for (Path one : all.collect(Collectors.toList())) {
        Path there = to.resolve(from.relativize(one).toString());
        Files.createDirectories(there.getParent());
        if (Files.isDirectory(one)) Files.createDirectories(there);
        else Files.copy(one, there);
      }
    }
  }

  private static void remove(Path folder) throws IOException {
    try (Stream<Path> all = Files.walk(folder)) {
      for (Path one : all.sorted(Comparator.reverseOrder()).collect(Collectors.toList())) Files.delete(one);
    }
  }
}
