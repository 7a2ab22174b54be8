import java.nio.file.Files;
import java.nio.file.Path;
import java.util.Comparator;
import java.util.regex.Matcher;
import java.util.regex.Pattern;
import java.util.stream.Stream;
import javax.tools.JavaCompiler;
import javax.tools.ToolProvider;

/** The Java of README.md compiles as it stands, and each call answers the number that stands behind it. */
public final class ReadmeTest {
  private static final Pattern BLOCK = Pattern.compile("(?s)```java\n(.*?)```");
  private static final Pattern ANSWERED = Pattern.compile("(x\\.\\w+\\(.*\\)); +// (-?\\d+)(:.*)?");

  private static int answered = 0;

  /** Public, since README's Java is loaded by a loader of its own, which sees nothing less. */
  public static void due(String what, long got, long want) { Checks.due(what, got, want); }

  /** A call with an answer behind it is looked at; all other lines stay as they are. */
  private static String looked(String line) {
    Matcher m = ANSWERED.matcher(line);
    if (!m.matches()) return line;
    answered++;
    String call = m.group(1);
    return "ReadmeTest.due(\"README: " + call.replace("\"", "\\\"") + ", answer " + answered + "\", " + call + ", " + m.group(2) + "L);";
  }

  private static String program() throws java.io.IOException {
    StringBuilder s = new StringBuilder("public final class ReadmeUse {\n");
    int blocks = 0;
    Matcher block = BLOCK.matcher(Files.readString(Path.of("README.md")));
    for (; block.find(); blocks++) {
      s.append("public static void use").append(blocks).append("() {\n");
      for (String line : block.group(1).split("\n")) s.append(looked(line)).append('\n');
      s.append("}\n");
    }
    s.append("public static void run() {\n");
    for (int k = 0; k < blocks; k++) s.append("use").append(k).append("();\n");
    return s.append("}\n}\n").toString();
  }

  private static void runIn(Path room) throws Exception {
    Path file = Files.writeString(room.resolve("ReadmeUse.java"), program());
    JavaCompiler javac = ToolProvider.getSystemJavaCompiler();
    int failed = javac == null ? 1 : javac.run(null, null, null, "-cp", System.getProperty("java.class.path"), "-d", room.toString(), file.toString());
    Checks.due("README's Java compiles", failed, 0);
    if (failed != 0) return;
    java.net.URL[] from = {room.toUri().toURL()};
    try (java.net.URLClassLoader loader = new java.net.URLClassLoader(from)) {
      loader.loadClass("ReadmeUse").getMethod("run").invoke(null);
    }
    Checks.due("README has calls with answers", answered > 0 ? 1 : 0, 1);
  }

  public static void main(String[] args) throws Exception {
    Path room = Files.createTempDirectory("readme");
    try {
      runIn(room);
    } finally {
      try (Stream<Path> made = Files.walk(room)) {
        for (Path p : made.sorted(Comparator.reverseOrder()).toList()) Files.delete(p);
      }
    }
    Checks.end("ReadmeTest");
  }
}
