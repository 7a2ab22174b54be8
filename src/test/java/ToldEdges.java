import java.util.function.ToIntFunction;

/** The boundary cases of promises 37 to 44, what is told, and of how long an object is used. */
final class ToldEdges extends Edges {
  static void run() {
    asked();
    upper();
    lower();
    count();
    miles();
    finding();
    findings();
    digest();
    calls();
  }

  /** A town turned by -8, gone -1; row 0 a plan, row 1 pairs; told: 77 by asked(), 11 by 2 by upper() and lower(). */
  private static WashSails telling() {
    WashSails x = six();
    x.hang(3);
    x.hour();
    x.keep(0);
    Checks.lay(x, 0, 16, 63);
    Checks.lay(x, 1, 1, 3);
    Checks.lay(x, 2, 77);
    Checks.write(x, 1, "w1l01");
    x.mid(0, 1);
    x.at(2, 0);
    return x;
  }

  private static void stays(ToIntFunction<WashSails> call) {
    WashSails x = telling();
    int answer = call.applyAsInt(x);
    due(answer == FINDING || answer == BAD ? 0 : 1, 1);
    due(x.asked(), 77);
  }

  private static void asked() {
    says(37, "What the latest lay(), at(), mean(), line(), hour(), goes(), even(), fast(), wet(), sail(), far(), ways(), rival(), lots()"
        + " that was not refused (nor NONE) told;");
    WashSails x = telling();
    due(x.asked(), 77);
    due(x.asked(), 77);
    asks(x, x.lay(2, 0, 78), 77);
    asks(x, x.at(2, 0), 78);
    asks(x, x.mean(0), 39);
    asks(x, x.line(3, 1), 2);
    asks(x, x.hour(), -2);
    asks(x, x.goes(16), 0);
    asks(x, x.even(3), NONE);
    due(x.fast(99), 0);
    due(x.asked(), 0);
    x.hour();
    due(x.wet(), 8);
    due(x.asked(), 2);
    // In winds of 5 and 2.
    asks(x, x.sail(0), -2 + 10 + 9);
    asks(x, x.far(0, 0, 5), -2);
    asks(x, x.ways(0, 0), 0);
    x.on(0);
    asks(x, x.ways(18, -17), 63);
    asks(x, x.rival(0), -1);
    asks(x, x.lots(1, 1), -1 + 2);
    notTold();
    notByRefused();
    says(37, "0 before.");
    due(fresh().asked(), 0);
    WashSails before = six();
    before.hang(0);
    before.count(0);
    before.miles();
    due(before.asked(), 0);
  }

  /** Calls that tell nothing by asked(). */
  private static void notTold() {
    stays(x -> x.row(3, 4));
    stays(x -> x.tear(0));
    stays(x -> x.copy(0, 0, 1, 0, 1));
    stays(x -> x.text(0, 9));
    stays(x -> x.put(1, 0, 9));
    stays(x -> x.fault(1));
    stays(x -> x.town(0));
    stays(x -> x.mark(1, 1));
    stays(x -> x.wind(3));
    stays(x -> x.hang(0));
    stays(x -> x.take(3));
    stays(x -> x.undo(1));
    stays(x -> x.keep(1));
    stays(x -> x.on(0));
    stays(x -> x.dry(0));
    stays(x -> x.soon(0));
    stays(x -> x.least(1, 1));
    stays(x -> x.kinds(0, 1));
    stays(x -> x.areas(0, 1));
    stays(x -> x.mid(0, 5));
    stays(x -> x.odds(0, 5, 5));
    stays(x -> x.count(4));
    stays(x -> x.miles() == -1 ? 1 : BAD);
    stays(x -> x.finding());
    stays(x -> x.findings(1));
    stays(x -> (int) x.upper());
    stays(x -> (int) x.lower());
    stays(x -> x.digest() == 0 ? BAD : 1);
  }

  /** What is refused, and NONE, tells nothing by asked(), upper() and lower(). */
  private static void notByRefused() {
    bad(ToldEdges::telling, x -> x.lay(6, 0, 1));
    found(ToldEdges::telling, BEYOND, x -> x.lay(2, 1, 1));
    found(ToldEdges::telling, NOTHING, x -> x.at(4, 0));
    found(ToldEdges::telling, NOTHING, x -> x.mean(4));
    bad(ToldEdges::telling, x -> x.line(0, 7));
    bad(ToldEdges::telling, x -> x.goes(64));
    bad(ToldEdges::telling, x -> x.even(-100));
    bad(ToldEdges::telling, x -> x.fast(-1));
    found(ToldEdges::telling, NOTHING, x -> x.sail(4));
    bad(ToldEdges::telling, x -> x.far(0, -1, 0));
    refused(ToldEdges::turned, NONE, x -> x.far(1, 179, 0));
    bad(ToldEdges::telling, x -> x.ways(-100, 0));
    bad(ToldEdges::telling, x -> x.rival(-1));
    bad(ToldEdges::telling, x -> x.lots(0, 1));
  }

  /** Turned by 180, with no line to turn it back. */
  private static WashSails turned() {
    WashSails x = Checks.town("w5l890");
    x.hang(0);
    x.hour();
    withRow(x, 0, 1);
    x.mid(0, 1);
    x.at(0, 0);
    return x;
  }

  private static void upper() {
    says(38, "The upper number that was told last;");
    WashSails x = telling();
    long first = x.upper();
    due(first, 11);
    due(x.upper(), first);
    x.hour();
    due(x.upper(), -20);
    x.undo(2);
    due(x.upper(), -20);
    x.goes(16);
    due(x.upper(), -48);
    x.even(0);
    due(x.upper(), 1);
    x.sail(0);
    due(x.upper(), -8 - 48);
    x.ways(18, -17);
    due(x.upper(), 1);
    x.mid(0, 1);
    due(x.upper(), first);
    x.odds(0, 5, 1);
    due(x.upper(), 1);
    x.miles();
    due(x.upper(), -8);
    // These tell by asked(), or by their answer alone.
    x.lots(1, 1);
    x.far(1, 999, 4);
    x.fast(9);
    x.wet();
    x.rival(1);
    x.line(0, 0);
    x.soon(0);
    x.least(1, 0);
    x.kinds(0, 1);
    x.areas(0, 1);
    x.dry(0);
    x.mean(0);
    x.lay(0, 0, 1);
    x.digest();
    due(x.upper(), -8);
    due(x.lower(), 1);
    says(38, "0 before.");
    due(fresh().upper(), 0);
    WashSails y = six();
    y.hang(0);
    y.line(0, 6);
    due(y.upper(), 0);
  }

  private static void lower() {
    says(39, "Its lower number;");
    WashSails[] each = new WashSails[6];
    for (int k = 0; k < 6; k++) {
      each[k] = telling();
      due(each[k].lower(), 2);
    }
    each[0].hour();
    each[1].goes(1);
    each[2].even(0);
    each[3].sail(0);
    each[4].ways(0, 0);
    each[5].miles();
    for (int k = 0; k < 6; k++) due(each[k].lower(), 1);
    WashSails x = telling();
    x.odds(0, 11, 1);
    due(x.lower(), 144);
    x.mid(0, 0);
    due(x.lower(), 1);
    says(39, "1 before.");
    due(fresh().lower(), 1);
    due(six().lower(), 1);
  }

  private static void count() {
    says(40, "0 LINES, 1 the HOUR, 2 DEEDS, 3 LINES that are hung out, 4 all WET, 5 SHEETS (BOLSTERS, PENNANTS, too),"
        + " 6 BOLSTERS (PENNANTS, too), 7 ROWS, 8 TEXTS that are there, 9 kept TOWNS.");
    counts(fresh(), 0, 0, 0, 0, 0, 0, 0, 0, 0, 0);
    counts(six(), 6, 0, 0, 0, 0, 3, 2, 0, 1, 0);
    counts(Checks.town("w0l410b410k410"), 3, 0, 0, 0, 0, 0, 0, 0, 1, 0);
    counts(Checks.town("w0s410s410"), 2, 0, 0, 0, 0, 2, 0, 0, 1, 0);
    WashSails x = Checks.town("w0p410p410p410p410p410p410");
    for (int i = 0; i < 6; i++) x.hang(i);
    behindHours(x, 34);
    for (int k = 0; k <= 2; k++) x.keep(k);
    for (int r = 0; r <= 5; r++) x.row(r, 0);
    for (int t = 1; t <= 3; t++) x.text(t, 0);
    counts(x, 6, 34, 40, 6, 54, 6, 6, 6, 4, 3);
    x.take(0);
    x.tear(5);
    x.undo(8);
    x.take(0);
    counts(x, 6, 2, 9, 5, 24, 6, 6, 5, 4, 3);
    says(40, "BAD.");
    for (int what : new int[] {-1, 10, LEAST, MOST}) {
      bad(Edges::six, y -> y.count(what));
      bad(Edges::fresh, y -> y.count(what));
    }
  }

  private static void miles() {
    says(41, "MILES now; TURN now by upper() (lower() is 1; below 0, too).");
    isAt(fresh(), 0, 0);
    isAt(telling(), -1, -8);
    WashSails x = turned();
    due(x.lower() > 1 ? 1 : 0, 1);
    isAt(x, 11, 180);
    x.goes(0);
    isAt(x, 11, 180);
    x.undo(0);
    isAt(x, 0, 0);
    WashSails back = Checks.town("w5k890");
    back.hang(0);
    behindHours(back, 39);
    isAt(back, -11 * 39, -180 * 39);
  }

  private static void finding() {
    says(42, "The latest FINDING (0 before any).");
    WashSails x = fresh();
    due(x.finding(), 0);
    x.row(6, 0);
    x.hour();
    due(x.finding(), 0);
    x.at(0, 0);
    due(x.finding(), NOTHING);
    due(x.finding(), NOTHING);
    x.row(0, 1);
    x.at(0, 0);
    due(x.finding(), NOTHING);
    x.at(0, 1);
    due(x.finding(), BEYOND);
    x.row(0, 0);
    x.mean(0);
    due(x.finding(), NOUGHT);
    x.row(0, -1);
    due(x.finding(), SIZE);
    x.hour();
    x.count(10);
    due(x.finding(), SIZE);
    WashSails y = six();
    y.mark(0, 1);
    due(y.finding(), UNLIKE);
    y.findings(6);
    y.hang(0);
    due(y.finding(), UNLIKE);
  }

  private static void findings() {
    says(43, "How often a FINDING (1 .. 5) was answered.");
    WashSails x = withRow(six(), 0);
    for (int f = 1; f <= 5; f++) due(x.findings(f), 0);
    for (int n = 0; n < 3; n++) x.at(1, 0);
    x.on(0);
    for (int n = 0; n < 2; n++) x.at(0, 0);
    for (int n = 0; n < 7; n++) x.mark(0, 1);
    x.mean(0);
    for (int n = 0; n < 200; n++) x.text(0, -1);
    x.row(6, 0);
    x.take(0);
    int[] want = {4, 2, 7, 1, 200};
    for (int f = 1; f <= 5; f++) due(x.findings(f), want[f - 1]);
    says(43, "BAD.");
    for (int f : new int[] {0, -1, 6, LEAST, MOST}) {
      bad(Edges::fresh, y -> y.findings(f));
      bad(Edges::six, y -> y.findings(f));
    }
  }

  private static long folded(long h, long... values) {
    long sum = h;
    for (long v : values) sum = 31 * sum + v;
    return sum;
  }

  /** Six rows, then four texts, all missing. */
  private static final long[] NO_ROWS = {-1, -1, -1, -1, -1, -1}, NO_TEXTS = {-1, -1, -1, -1};

  private static long withoutTown(long[] rows, int rowCount, long[] texts, int textCount) {
    long counts = folded(17, 0, 0, 0, 0, 0, 0, 0, rowCount, textCount, 0, 0, 0, -1, -1, -1);
    return folded(folded(counts, rows), texts);
  }

  private static void digest() {
    says(44, "h = 17; then h = 31 h + v for each v: count() 0 to 9;");
    due(fresh().digest(), withoutTown(NO_ROWS, 0, NO_TEXTS, 0));
    WashSails x = Checks.town("w0p410s420");
    x.text(0, 0);
    x.hang(1);
    x.hour();
    x.keep(2);
    long[] counts = {2, 1, 2, 1, 2, 2, 1, 0, 1, 1};
    long[] lines = {5, 0, 1, 0, 0, 0, 0, 1, 0, 2, 0, 1, 2, 0};
    long[] kept = {-1, -1, 2};
    long[] emptyFirst = {0, -1, -1, -1};
    due(x.digest(), folded(folded(folded(folded(folded(folded(17, counts), 0, 0), lines), kept), NO_ROWS), emptyFirst));
    says(44, "MILES; TURN;");
    WashSails back = Checks.town("w5k890");
    back.text(0, 0);
    back.hang(0);
    back.hour();
    long[] one = {3, 4, 9, 0, 1, 0, -45};
    long then = folded(17, 1, 1, 2, 1, 0, 0, 0, 0, 1, 0, -11, -180);
    due(back.digest(), folded(folded(folded(folded(then, one), -1, -1, -1), NO_ROWS), emptyFirst));
    says(44, "of each LINE line() 0 to 6;");
    WashSails none = fresh();
    none.text(0, 0);
    due(none.digest(), withoutTown(NO_ROWS, 0, emptyFirst, 1));
    WashSails two = Checks.town("w2s129o813");
    two.text(0, 0);
    long[] both = {1, -3, 2, 9, 0, 0, 6, 4, 4, 1, 3, 0, 0, 8};
    long counted = folded(17, 2, 0, 0, 0, 0, 2, 1, 0, 1, 0, 0, 0);
    due(two.digest(), folded(folded(folded(folded(counted, both), -1, -1, -1), NO_ROWS), emptyFirst));
    says(44, "of each kept TOWN how many DEEDS (-1: missing);");
    two.keep(0);
    two.hang(0);
    two.keep(2);
    two.undo(0);
    counted = folded(17, 2, 0, 0, 0, 0, 2, 1, 0, 1, 2, 0, 0);
    due(two.digest(), folded(folded(folded(folded(counted, both), 0, -1, 1), NO_ROWS), emptyFirst));
    says(44, "of each ROW its size (-1: missing) and places,");
    WashSails rows = withRow(withRow(fresh(), 0), 5, LEAST, MOST, -1, 0);
    due(rows.digest(), withoutTown(new long[] {0, -1, -1, -1, -1, 4, LEAST, MOST, -1, 0}, 2, NO_TEXTS, 0));
    rows.row(5, 40);
    rows.tear(0);
    long[] forty = new long[46];
    for (int r = 0; r < 5; r++) forty[r] = -1;
    forty[5] = 40;
    due(rows.digest(), withoutTown(forty, 1, NO_TEXTS, 0));
    // What stood behind a row's end, or in a torn one, is not told.
    rows.lay(5, 39, 9);
    rows.row(5, 1);
    due(rows.digest(), withoutTown(new long[] {-1, -1, -1, -1, -1, 1, 0}, 1, NO_TEXTS, 0));
    says(44, "of each TEXT likewise.");
    WashSails texts = fresh();
    texts.text(0, 0);
    texts.text(3, 3);
    texts.put(3, 0, 200);
    texts.put(3, 2, 127);
    due(texts.digest(), withoutTown(NO_ROWS, 0, new long[] {0, -1, -1, 3, -56, 32, 127}, 2));
    due(texts.asked(), 0);
    due(texts.finding(), 0);
  }

  private static void calls() {
    says(Doc.USE, "An object is used for at most 512 calls after it has been made; what later calls answer is free.");
    // The last one of 512 is answered as the first one was.
    WashSails x = fresh();
    x.text(0, 26);
    String town = "w5l840l040l730l130s620s220";
    for (int i = 0; i < 26; i++) x.put(0, i, town.charAt(i));
    x.town(0);
    for (int n = 28; n < 510; n++) due(x.far(3, 1, 0), 1);
    due(x.asked(), 3 * 25);
    due(x.far(3, 1, 0), 1);
  }
}
