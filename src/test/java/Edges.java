import java.util.Arrays;
import java.util.function.Supplier;
import java.util.function.ToIntFunction;

/** What tests that are named after the document's sentences share; they extend it to have its names at hand. */
abstract class Edges {
  static final int BAD = -1, FULL = -2, FINDING = -3, STATE = -4, NONE = -9;
  static final int NOTHING = 1, BEYOND = 2, UNLIKE = 3, NOUGHT = 4, SIZE = 5;
  static final int LEAST = Integer.MIN_VALUE, MOST = Integer.MAX_VALUE;

  /** Winds 2 3 0 5; lines: 0 LINE -4 3 4, 1 SHEET 1 4 2, 2 BLANKET 0 5 5, 3 BLACK 2 2 1, 4 BOLSTER -2 3 5, 5 PENNANT 4 7 1. */
  static final String SIX = "w2305 l034s542 b455k621o235p871";

  private static Doc doc;
  private static String sentence = "";
  private static int testsOfSentence;

  static void open(Doc document) { doc = document; }

  /** The tests that follow, up to the next one, are of this sentence. */
  static void says(int part, String words) {
    close();
    sentence = (part == Doc.TERMS ? "terms" : part == Doc.USE ? "use" : "promise " + part) + " '" + words + "'";
    if (!doc.quote(part, words)) Checks.due("the document says " + sentence, 0, 1);
    testsOfSentence = 0;
  }

  /** A sentence without a test of its own is a fault of the tests. */
  static void close() {
    if (!sentence.isEmpty() && testsOfSentence == 0) Checks.due("a test of " + sentence, 0, 1);
    sentence = "";
  }

  static void due(long got, long want) {
    testsOfSentence++;
    if (got == want) {
      Checks.made++;
      return;
    }
    Checks.due(sentence + " (" + caller() + ")", got, want);
  }

  private static String caller() {
    return StackWalker.getInstance().walk(frames -> frames.filter(f -> !f.getClassName().equals("Edges") && !f.getMethodName().equals("due")).findFirst())
        .map(f -> f.getFileName() + ":" + f.getLineNumber()).orElse("?");
  }

  /** A call that answers 1 and tells this by asked(). */
  static void asks(WashSails x, int answer, int want) {
    due(answer, 1);
    due(x.asked(), want);
  }

  static void shares(WashSails x, int answer, long upper, long lower) {
    due(answer, 1);
    due(x.upper(), upper);
    due(x.lower(), lower);
  }

  static void tells(WashSails x, int answer, int asked, long upper) {
    asks(x, answer, asked);
    due(x.upper(), upper);
    due(x.lower(), 1);
  }

  private static long[] seen(WashSails x) {
    long[] all = new long[10];
    for (int f = 1; f <= 5; f++) all[f] = x.findings(f);
    all[0] = x.finding();
    all[6] = x.digest();
    all[7] = x.asked();
    all[8] = x.upper();
    all[9] = x.lower();
    return all;
  }

  /** Refused by BAD, FULL or STATE, which changes nothing. */
  static void refused(Supplier<WashSails> state, int want, ToIntFunction<WashSails> call) {
    WashSails x = state.get();
    long[] before = seen(x);
    due(call.applyAsInt(x), want);
    due(Arrays.equals(before, seen(x)) ? 1 : 0, 1);
  }

  static void bad(Supplier<WashSails> state, ToIntFunction<WashSails> call) { refused(state, BAD, call); }

  /** Refused by a finding, which changes nothing but what finding() and findings() tell. */
  static void found(Supplier<WashSails> state, int f, ToIntFunction<WashSails> call) {
    WashSails x = state.get();
    long[] due = seen(x);
    due[0] = f;
    due[f]++;
    due(call.applyAsInt(x), FINDING);
    due(x.finding(), f);
    due(Arrays.equals(due, seen(x)) ? 1 : 0, 1);
  }

  static WashSails six() { return Checks.town(SIX); }

  static WashSails fresh() { return new WashSails(); }

  static WashSails withRow(WashSails x, int r, int... values) {
    Checks.lay(x, r, values);
    return x;
  }

  static WashSails withText(String text) {
    WashSails x = new WashSails();
    Checks.write(x, 1, text);
    return x;
  }

  /** A town behind so many deeds: line 0 hung out and taken in by turns. */
  static WashSails withDeeds(String town, int deeds) {
    WashSails x = Checks.town(town);
    for (int d = 0; d < deeds; d++) {
      if (d % 2 == 0) x.hang(0);
      else x.take(0);
    }
    return x;
  }

  static WashSails behindHours(WashSails x, int hours) {
    for (int h = 0; h < hours; h++) x.hour();
    return x;
  }

  static int at(WashSails x, int r, int i) {
    if (x.at(r, i) != 1) return LEAST + 1;
    return x.asked();
  }

  static int traitOf(WashSails x, int i, int what) {
    if (x.line(i, what) != 1) return LEAST + 1;
    return x.asked();
  }

  static void rowIs(WashSails x, int r, int... values) {
    for (int i = 0; i < values.length; i++) due(at(x, r, i), values[i]);
    due(x.at(r, values.length), FINDING);
  }

  static void counts(WashSails x, int... want) {
    for (int what = 0; what < want.length; what++) due(x.count(what), want[what]);
  }

  /** How far, and turned how much. */
  static void isAt(WashSails x, int miles, int turn) {
    due(x.miles(), miles);
    due(x.upper(), turn);
    due(x.lower(), 1);
  }
}
