import java.io.IOException;
import java.nio.file.Files;
import java.nio.file.Path;
import java.util.regex.Matcher;
import java.util.regex.Pattern;

/** The document's sections as they stand, with one blank for each gap: 0 is "Terms", others are promises. */
final class Doc {
  static final int PROMISES = 41;

  private Doc() {}

  static String section(int promise) {
    String head = promise == 0 ? "## Terms\n" : "## Promise " + promise + ": [^\\n]*\n";
    Matcher found = Pattern.compile("(?ms)^" + head + "(.*?)^## ").matcher(whole());
    if (!found.find()) throw new IllegalStateException("no section " + promise);
    return plain(found.group(1).replaceAll("(?m)^```.*$", ""));
  }

  static String plain(String words) {
    return words.replaceAll("\\s+", " ").trim();
  }

  private static String whole() {
    try {
      return Files.readString(Path.of("../shared/DOC.md"));
    } catch (IOException e) {
      throw new IllegalStateException(e);
    }
  }
}
