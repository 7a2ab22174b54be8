import java.io.IOException;
import java.nio.file.Files;
import java.nio.file.Path;
import java.util.Map;
import java.util.TreeMap;
import java.util.regex.Matcher;
import java.util.regex.Pattern;

/** The document's own words, part by part, and which of them a test has been named after; none where there is no document. */
final class Doc {
  /** Parts beside the promises, which are 1 to 44. */
  static final int TERMS = 0, USE = 45;
  private static final int PROMISES = 44;

  private final Map<Integer, String> parts = new TreeMap<>();
  private final Map<Integer, boolean[]> said = new TreeMap<>();

  Doc(Path file) throws IOException {
    if (!Files.exists(file)) {
      System.out.println("there is no " + file + ": the words that tests are named after are not looked at");
      return;
    }
    String text = Files.readString(file);
    add(USE, between(text, "ANSWERS.", "## The public face"));
    add(TERMS, between(text, "## Terms", "Ahead of the calls").replaceAll("```(text)?", " ").replaceAll("======== \\d", " "));
    Matcher promise = Pattern.compile("(?s)## Promise (\\d+): [^\\n]*\\s+`[^`]*`:(.*?)(?=\\n## )").matcher(text);
    while (promise.find()) add(Integer.parseInt(promise.group(1)), promise.group(2));
    Checks.due("parts of the document", parts.size(), PROMISES + 2);
  }

  private static String between(String text, String from, String to) {
    int begin = text.indexOf(from) + from.length();
    return text.substring(begin, text.indexOf(to, begin));
  }

  private void add(int part, String text) {
    String words = text.replaceAll("\\s+", " ").trim();
    parts.put(part, words);
    said.put(part, new boolean[words.length()]);
  }

  /** Marks the first such words of the part that no test was named after yet. */
  boolean quote(int part, String words) {
    if (parts.isEmpty()) return true;
    String text = parts.getOrDefault(part, "");
    int from = text.indexOf(words);
    for (int next = from; next >= 0; next = text.indexOf(words, next + 1)) {
      if (said.get(part)[next]) continue;
      from = next;
      break;
    }
    for (int i = from; from >= 0 && i < from + words.length(); i++) said.get(part)[i] = true;
    return from >= 0;
  }

  /** What no test is named after, letters and figures alone; empty where all is said. */
  String unsaid(int part) {
    String text = parts.getOrDefault(part, "");
    StringBuilder rest = new StringBuilder();
    for (int i = 0; i < text.length(); i++) {
      boolean counts = Character.isLetterOrDigit(text.charAt(i)) && !said.get(part)[i];
      if (counts) rest.append(text.charAt(i));
      else if (rest.length() > 0 && rest.charAt(rest.length() - 1) != ' ') rest.append(' ');
    }
    return rest.toString().trim();
  }

  Iterable<Integer> numbers() { return parts.keySet(); }
}
