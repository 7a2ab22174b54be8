import java.lang.reflect.Constructor;
import java.lang.reflect.Field;
import java.lang.reflect.Method;
import java.lang.reflect.Modifier;
import java.nio.file.Files;
import java.nio.file.Path;
import java.util.Arrays;
import java.util.HashSet;
import java.util.Random;
import java.util.Set;
import java.util.TreeSet;
import java.util.regex.Matcher;
import java.util.regex.Pattern;

/** The public face, the rules of LANGUAGE.md that can be seen in the source, and that no call throws. */
public final class RulesTest {
  private static final String[] FACE = {
      "int row(int,int)", "int lay(int,int,int)", "int at(int,int)", "int tear(int)", "int copy(int,int,int,int,int)",
      "int mean(int)", "int text(int,int)", "int put(int,int,int)", "int fault(int)", "int town(int)",
      "int line(int,int)", "int mark(int,int)", "int wind(int)", "int hang(int)", "int take(int)", "int hour()",
      "int undo(int)", "int keep(int)", "int on(int)", "int goes(int)", "int even(int)", "int fast(int)", "int wet()",
      "int sail(int)", "int dry(int)", "int far(int,int,int)", "int soon(int)", "int least(int,int)",
      "int ways(int,int)", "int kinds(int,int)", "int areas(int,int)", "int rival(int)", "int mid(int,int)",
      "int odds(int,int,int)", "int lots(int,int)", "int asked()", "long upper()", "long lower()", "int count(int)",
      "int miles()", "int finding()", "int findings(int)", "long digest()"};
  private static final String[] CONSTANTS = {"BAD", "FULL", "FINDING", "STATE", "SPENT", "NONE"};
  private static final int[] VALUES = {-1, -2, -3, -4, -6, -9};

  private static void holds(String rule, boolean ok) { Checks.due(rule, ok ? 1 : 0, 1); }

  private static String signature(Method m) {
    StringBuilder s = new StringBuilder(m.getReturnType() + " " + m.getName() + "(");
    for (Class<?> p : m.getParameterTypes()) s.append(s.charAt(s.length() - 1) == '(' ? "" : ",").append(p);
    return s.append(')').toString();
  }

  private static void face() throws ReflectiveOperationException {
    Class<?> c = WashSails.class;
    holds("public and final", Modifier.isPublic(c.getModifiers()) && Modifier.isFinal(c.getModifiers()));
    Set<String> seen = new TreeSet<>();
    Set<String> names = new HashSet<>();
    for (Method m : c.getDeclaredMethods()) {
      if (Modifier.isPrivate(m.getModifiers())) continue;
      holds("only public beside private: " + m, Modifier.isPublic(m.getModifiers()) && !Modifier.isStatic(m.getModifiers()));
      seen.add(signature(m));
      names.add(m.getName());
    }
    holds("the methods of the face: " + seen, seen.equals(new TreeSet<>(Arrays.asList(FACE))));
    Constructor<?>[] made = c.getDeclaredConstructors();
    holds("one constructor", made.length == 1 && made[0].getParameterCount() == 0 && Modifier.isPublic(made[0].getModifiers()));
    int constants = 0;
    for (Field f : c.getDeclaredFields()) {
      if (!Modifier.isPrivate(f.getModifiers())) constants++;
      if (Modifier.isStatic(f.getModifiers())) holds("static and final: " + f, Modifier.isFinal(f.getModifiers()));
    }
    Checks.due("constants", constants, CONSTANTS.length);
    for (int k = 0; k < CONSTANTS.length; k++) Checks.due(CONSTANTS[k], c.getField(CONSTANTS[k]).getInt(null), VALUES[k]);
    insides(c, names);
  }

  /** The lists above are the document's own: its face, line by line, where the document is there. */
  private static void facesAgree() throws java.io.IOException {
    Path file = Path.of("../shared/DOC.md");
    if (!Files.exists(file)) return;
    String text = Files.readString(file);
    String face = text.substring(text.indexOf("public final class WashSails {"), text.indexOf("## Terms"));
    Set<String> methods = new TreeSet<>();
    Matcher method = Pattern.compile("public (int|long) (\\w+)\\(([^)]*)\\);").matcher(face);
    while (method.find()) methods.add(method.group(1) + " " + method.group(2) + "(" + method.group(3).replaceAll(" \\w+(,|$)", "$1").replace(" ", "") + ")");
    holds("the document's methods: " + methods, methods.equals(new TreeSet<>(Arrays.asList(FACE))));
    StringBuilder constants = new StringBuilder("public static final int ");
    for (int k = 0; k < CONSTANTS.length; k++) constants.append(k == 0 ? "" : ", ").append(CONSTANTS[k]).append(" = ").append(VALUES[k]);
    holds("the document's constants: " + constants, face.contains(constants + ";"));
    Checks.due("lines of the document's face", face.lines().filter(line -> line.startsWith("    public ")).count(), FACE.length + 2);
  }

  private static void insides(Class<?> c, Set<String> publicNames) {
    holds("at most twelve classes", c.getDeclaredClasses().length <= 11);
    for (Class<?> inside : c.getDeclaredClasses()) {
      holds("static: " + inside, Modifier.isStatic(inside.getModifiers()) && !Modifier.isPublic(inside.getModifiers()));
      small(inside, publicNames);
    }
    small(c, publicNames);
  }

  private static void small(Class<?> c, Set<String> publicNames) {
    int fields = 0;
    for (Field f : c.getDeclaredFields()) if (!Modifier.isStatic(f.getModifiers())) fields++;
    holds("at most twenty fields: " + c, fields <= 20);
    for (Method m : c.getDeclaredMethods()) {
      holds("at most seven parameters: " + m, m.getParameterCount() <= 7);
      if (Modifier.isPublic(m.getModifiers())) continue;
      holds("no other method of a public one's name: " + m, !publicNames.contains(m.getName()));
    }
  }

  private static void source() throws java.io.IOException {
    String text = Files.readString(Path.of("src/main/java/WashSails.java"));
    String code = text.replaceAll("(?s)/\\*.*?\\*/", "").replaceAll("//[^\n]*", "");
    String[] never = {"throw", "throws", "try", "catch", "finally", "synchronized", "assert", "package", "protected",
        "Exception", "Object", "lambda", "Random", "System.out", "System.nanoTime", "Thread", "hashCode", "toString",
        "Exact", "while", "do", "var", "native", "volatile", "transient"};
    for (String word : never) holds("no " + word, !Pattern.compile("\\b" + Pattern.quote(word) + "\\b").matcher(code).find());
    holds("no lambda, no method reference", !code.contains("->") && !code.contains("::"));
    holds("signs 1 to 127", text.chars().allMatch(ch -> ch > 0 && ch < 128));
    Matcher imports = Pattern.compile("import ([^;]*);").matcher(code);
    while (imports.find()) holds("an allowed import: " + imports.group(1), imports.group(1).equals("java.util.Arrays"));
    Matcher calls = Pattern.compile("\\b(Math|Integer|Long|System|Arrays)\\.(\\w+)").matcher(code);
    Set<String> fine = Set.of("Math.max", "Math.min", "Math.abs", "Integer.bitCount", "System.arraycopy", "Arrays.fill");
    while (calls.find()) holds("of the library: " + calls.group(), fine.contains(calls.group()));
    roomIsMadeOnce(code);
    methodsAreShort(text);
  }

  /** All that lives is made with the object: new stands in fields and constructors alone. */
  private static void roomIsMadeOnce(String code) {
    for (String line : code.split("\n")) {
      if (!line.matches(".*\\bnew\\b.*")) continue;
      holds("new in a field or constructor: " + line.trim(),
          line.matches("\\s*(private )?final .*") || line.matches("\\s*this\\..*") || line.contains("charts[k] = new Chart()"));
    }
  }

  private static void methodsAreShort(String text) {
    String[] lines = text.split("\n");
    int begun = -1;
    for (int n = 0; n < lines.length; n++) {
      String indent = lines[n].replaceAll("\\S.*", "");
      if (lines[n].matches("\\s+.*\\) \\{") && (indent.length() == 4 || indent.length() == 8) && !lines[n].matches("\\s*(if|for|switch|else).*")) begun = n;
      if (begun >= 0 && lines[n].equals(lines[begun].replaceAll("\\S.*", "") + "}")) {
        holds("a short method: " + lines[begun].trim(), n - begun <= 40);
        begun = -1;
      }
    }
  }

  private static void wild() {
    Random random = new Random(9);
    int[] odd = {Integer.MIN_VALUE, Integer.MIN_VALUE + 1, -1, 0, 1, 2, 3, 31, 32, 33, 63, 64, Integer.MAX_VALUE - 1, Integer.MAX_VALUE};
    Method[] calls = Arrays.stream(WashSails.class.getDeclaredMethods()).filter(m -> Modifier.isPublic(m.getModifiers()))
        .sorted((a, b) -> a.getName().compareTo(b.getName())).toArray(Method[]::new);
    for (int run = 0; run < 400; run++) {
      WashSails x = run % 4 == 0 ? new WashSails() : Checks.town("w5013l895 s011b499k790o880p010".substring(0, run % 4 == 1 ? 9 : 30));
      for (int n = 0; n < 400; n++) {
        Method m = calls[random.nextInt(calls.length)];
        Object[] args = new Object[m.getParameterCount()];
        for (int k = 0; k < args.length; k++) {
          args[k] = random.nextBoolean() ? odd[random.nextInt(odd.length)] : random.nextBoolean() ? random.nextInt(8) : random.nextInt();
        }
        try {
          m.invoke(x, args);
          Checks.made++;
        } catch (ReflectiveOperationException thrown) {
          holds(m + Arrays.toString(args) + " threw " + thrown.getCause(), false);
        }
      }
    }
  }

  public static void main(String[] args) throws Exception {
    face();
    facesAgree();
    source();
    wild();
    Checks.end("RulesTest");
  }
}
