import java.io.IOException;
import java.nio.file.Files;
import java.nio.file.Path;
import java.util.List;
import java.util.regex.Matcher;
import java.util.regex.Pattern;
import java.util.stream.Collectors;
import java.util.stream.Stream;

/** Every word of "Terms" and of the 41 promises stands in a sentence that some test names as the one it holds. */
public final class SentencesTest {
  private static final Dues dues = new Dues();
  private static final Pattern SENTENCE = Pattern.compile("(?:dues\\.sentence\\((\\d+), |setting\\(\\d, )\"([^\"]*)\"");

  public static void main(String[] args) throws IOException {
    String[] sections = new String[Doc.PROMISES + 1];
    boolean[][] named = new boolean[sections.length][];
    for (int promise = 0; promise < sections.length; promise++) {
      sections[promise] = Doc.section(promise);
      named[promise] = new boolean[sections[promise].length()];
    }
    for (Path test : tests()) {
      Matcher found = SENTENCE.matcher(Files.readString(test));
      while (found.find()) {
        int promise = found.group(1) == null ? 0 : Integer.parseInt(found.group(1));
        mark(sections[promise], named[promise], Doc.plain(found.group(2)));
      }
    }
    for (int promise = 0; promise < sections.length; promise++) unnamed(promise, sections[promise], named[promise]);
    dues.end();
  }

  private static List<Path> tests() throws IOException {
    try (Stream<Path> all = Files.list(Path.of("src/test/java"))) {
      return all.filter(one -> one.getFileName().toString().matches("(Bounds|Refusals).*Test\\.java")).sorted().collect(Collectors.toList());
    }
  }

  private static void mark(String section, boolean[] named, String words) {
    for (int at = section.indexOf(words); at >= 0; at = section.indexOf(words, at + 1)) {
      for (int i = at; i < at + words.length(); i++) named[i] = true;
    }
  }

  /** The heads of "Terms" and the calls that a promise begins with need no test of their own. */
  private static void unnamed(int promise, String section, boolean[] named) {
    mark(section, named, "==== 1. THE ROOM");
    mark(section, named, "==== 2. A SECOND");
    mark(section, named, "==== 3. WHAT COMES OF IT");
    mark(section, named, "Details.");
    Matcher call = Pattern.compile("^`[^`]*`").matcher(section);
    if (call.find()) mark(section, named, call.group());
    StringBuilder rest = new StringBuilder();
    for (int i = 0; i < named.length; i++) {
      char letter = section.charAt(i);
      if (!named[i] && Character.isLetterOrDigit(letter)) rest.append(letter);
      else if (!named[i] && rest.length() > 0) rest.append(' ');
    }
    String words = rest.toString().trim();
    dues.due("words without a test in section " + promise + ": " + words, words.length(), 0);
  }
}
