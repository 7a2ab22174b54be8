/** One method for each promise of the document, with answers reckoned by hand from its words. */
public final class PromiseTest {
  private static final int BAD = -1, FULL = -2, STATE = -4, NONE = -9;
  private static final int NOTHING = 1, BEYOND = 2, UNLIKE = 3, NOUGHT = 4, SIZE = 5;
  private static final int LEAST = Integer.MIN_VALUE, MOST = Integer.MAX_VALUE;

  // Winds 2 3 0 5; lines: 0 LINE -4 3 4, 1 SHEET 1 4 2, 2 BLANKET 0 5 5, 3 BLACK 2 2 1, 4 BOLSTER -2 3 5, 5 PENNANT 4 7 1.
  private static final String SIX = "w2305 l034s542 b455k621o235p871";

  private static void due(String what, long got, long want) { Checks.due(what, got, want); }
  private static void finding(WashSails x, String what, long got, int f) { Checks.finding(x, what, got, f); }

  private static void newObject() {
    WashSails x = new WashSails();
    for (int what = 0; what <= 9; what++) due("1 count " + what, x.count(what), 0);
    due("1 asked", x.asked(), 0);
    due("1 upper", x.upper(), 0);
    due("1 lower", x.lower(), 1);
    due("1 finding", x.finding(), 0);
    due("1 miles", x.miles(), 0);
    for (int f = 1; f <= 5; f++) due("1 findings", x.findings(f), 0);
    for (int r = 0; r <= 5; r++) finding(x, "1 row missing", x.at(r, 0), NOTHING);
    for (int t = 0; t <= 3; t++) finding(x, "1 text missing", x.fault(t), NOTHING);
    for (int k = 0; k <= 2; k++) finding(x, "1 kept missing", x.on(k), NOTHING);
    due("1 line", x.line(0, 0), BAD);
  }

  private static void rows() {
    WashSails x = new WashSails();
    due("2", x.row(0, 40), 40);
    due("2", x.row(5, 0), 0);
    due("2 above", x.row(0, 41), BAD);
    due("2 r below", x.row(-1, 3), BAD);
    due("2 r above", x.row(6, 3), BAD);
    due("2 r above and n below: BAD is ahead", x.row(6, -3), BAD);
    due("2 BAD is no finding", x.finding(), 0);
    finding(x, "2 below", x.row(1, -1), SIZE);
    due("2 refused changes nothing", x.count(7), 2);
    x.lay(0, 39, 7);
    due("2 anew", x.row(0, 40), 40);
    x.at(0, 39);
    due("2 zeros again", x.asked(), 0);
    x.lay(0, 3, 9);
    x.row(0, 2);
    x.row(0, 5);
    x.at(0, 3);
    due("2 zeros behind a lesser size", x.asked(), 0);
  }

  private static void layAndAt() {
    WashSails x = new WashSails();
    finding(x, "3 missing", x.lay(2, 0, 5), NOTHING);
    finding(x, "4 missing", x.at(2, 0), NOTHING);
    x.row(2, 3);
    due("3", x.lay(2, 2, LEAST), 1);
    due("3 what it was", x.asked(), 0);
    due("3", x.lay(2, 2, 6), 1);
    due("3 what it was", x.asked(), LEAST);
    due("4", x.at(2, 2), 1);
    due("4", x.asked(), 6);
    finding(x, "3 behind", x.lay(2, 3, 1), BEYOND);
    finding(x, "3 ahead", x.lay(2, -1, 1), BEYOND);
    finding(x, "4 behind", x.at(2, 3), BEYOND);
    finding(x, "4 ahead", x.at(2, LEAST), BEYOND);
    due("3 refused tells nothing", x.asked(), 6);
    due("3 r", x.lay(6, 0, 1), BAD);
    due("3 r", x.lay(-1, 9, 1), BAD);
    due("4 r", x.at(6, 0), BAD);
    due("4 r", x.at(-1, 0), BAD);
  }

  private static void tear() {
    WashSails x = new WashSails();
    finding(x, "5 missing", x.tear(0), NOTHING);
    x.row(0, 4);
    due("5", x.tear(0), 1);
    due("5 count", x.count(7), 0);
    finding(x, "5 again", x.tear(0), NOTHING);
    due("5 r", x.tear(6), BAD);
    due("5 r", x.tear(-1), BAD);
  }

  private static void copy() {
    WashSails x = new WashSails();
    Checks.lay(x, 0, 1, 2, 3, 4, 5);
    Checks.lay(x, 1, 9, 9, 9);
    due("6", x.copy(0, 1, 1, 0, 2), 1);
    x.at(1, 0); due("6 first", x.asked(), 2);
    x.at(1, 1); due("6 second", x.asked(), 3);
    x.at(1, 2); due("6 third stays", x.asked(), 9);
    due("6 onto itself", x.copy(0, 0, 0, 1, 4), 1);
    x.at(0, 4); due("6 as if taken ahead", x.asked(), 4);
    x.at(0, 1); due("6 as if taken ahead", x.asked(), 1);
    due("6 back", x.copy(0, 1, 0, 0, 4), 1);
    x.at(0, 3); due("6 back", x.asked(), 4);
    due("6 none", x.copy(0, 5, 1, 3, 0), 1);
    finding(x, "6 from too far", x.copy(0, 3, 1, 0, 3), BEYOND);
    finding(x, "6 to too far", x.copy(0, 0, 1, 1, 3), BEYOND);
    finding(x, "6 from ahead", x.copy(0, -1, 1, 0, 1), BEYOND);
    finding(x, "6 to ahead", x.copy(0, 0, 1, -1, 1), BEYOND);
    finding(x, "6 huge", x.copy(0, 1, 1, 1, MOST), BEYOND);
    finding(x, "6 huge place", x.copy(0, MOST, 1, 0, MOST), BEYOND);
    finding(x, "6 from missing", x.copy(2, 0, 1, 0, 0), NOTHING);
    finding(x, "6 to missing", x.copy(0, 9, 2, 0, 0), NOTHING);
    finding(x, "6 SIZE ahead of NOTHING", x.copy(2, 0, 3, 0, -1), SIZE);
    due("6 BAD ahead of SIZE", x.copy(6, 0, 0, 0, -1), BAD);
    due("6 BAD to", x.copy(0, 0, -1, 0, 1), BAD);
  }

  private static void mean() {
    WashSails x = new WashSails();
    finding(x, "7 missing", x.mean(3), NOTHING);
    x.row(3, 0);
    finding(x, "7 none", x.mean(3), NOUGHT);
    Checks.lay(x, 3, 8);
    due("7 of one", x.mean(3), 1);
    due("7 of one", x.asked(), 8);
    Checks.lay(x, 3, -3, -4);
    due("7", x.mean(3), 1);
    due("7 cut towards 0", x.asked(), -3);
    Checks.lay(x, 3, 3, 4);
    x.mean(3);
    due("7 cut", x.asked(), 3);
    Checks.lay(x, 3, MOST, MOST, MOST);
    x.mean(3);
    due("7 great", x.asked(), MOST);
    due("7 r", x.mean(6), BAD);
    due("7 r", x.mean(-1), BAD);
  }

  private static void textAndPut() {
    WashSails x = new WashSails();
    finding(x, "9 missing", x.put(0, 0, 1), NOTHING);
    due("8", x.text(3, 60), 60);
    due("8 none", x.text(0, 0), 0);
    due("8 above", x.text(0, 61), BAD);
    due("8 t", x.text(4, 1), BAD);
    due("8 t", x.text(-1, -1), BAD);
    finding(x, "8 below", x.text(1, -1), SIZE);
    due("8 count", x.count(8), 2);
    due("9 blank", x.put(3, 59, 200), 1032);
    due("9 a byte below 0", x.put(3, 59, 127), 944);
    due("9", x.put(3, 59, -128), 1127);
    due("9 least", x.put(3, 59, 256 + 65), 872);
    due("9 cut", x.put(3, 59, 0), 1065);
    finding(x, "9 behind", x.put(3, 60, 0), BEYOND);
    finding(x, "9 ahead", x.put(3, -1, 0), BEYOND);
    finding(x, "9 in none", x.put(0, 0, 0), BEYOND);
    due("9 t", x.put(4, 0, 0), BAD);
    due("9 t", x.put(-1, 0, 0), BAD);
    x.text(3, 60);
    due("8 blanks anew", x.put(3, 59, 0), 1032);
  }

  private static void faultIs(String text, int want) {
    WashSails x = new WashSails();
    Checks.write(x, 1, text);
    due("10 of '" + text + "'", x.fault(1), want);
    due("11 of '" + text + "'", x.town(1) > 0 ? NONE : want, want);
  }

  private static void faults() {
    faultIs(SIX, NONE);
    faultIs("w0l010", NONE);
    faultIs("   w01234501   l010  ", NONE);
    faultIs("w5p899o890k010b010s010l010", NONE);
    faultIs("", 0);
    faultIs("    ", 4);
    faultIs("w", 1);
    faultIs("w ", 1);
    faultIs("w 1l010", 1);
    faultIs("W1l010", 0);
    faultIs("  l010", 2);
    faultIs("w6l010", 1);
    faultIs("w56l010", 2);
    faultIs("w123450123l010", 9);
    faultIs("w12345012l010", NONE);
    faultIs("w12345012", 9);
    faultIs("w1", 2);
    faultIs("w1  ", 4);
    faultIs("w1 2l010", 3);
    faultIs("w1l", 3);
    faultIs("w1l0", 4);
    faultIs("w1l01", 5);
    faultIs("w1l910", 3);
    faultIs("w1l000", 4);
    faultIs("w1l01x", 5);
    faultIs("w1l0:0", 4);
    faultIs("w1l01:", 5);
    faultIs("w1l01/", 5);
    faultIs("w/l010", 1);
    faultIs("w1l 010", 3);
    faultIs("w1l0 10", 4);
    faultIs("w1x010", 2);
    faultIs("w1l010l010l010l010l010l010l010", 26);
    faultIs("w1l010l010l010l010l010l010   l", 29);
    faultIs("w1l010l010l010l010l010l010 5", 27);
    faultIs("w1l010l010l010l010l010l010   ", NONE);
    faultIs("w1l010w1", 6);
    WashSails x = new WashSails();
    finding(x, "10 missing", x.fault(2), NOTHING);
    due("10 t", x.fault(4), BAD);
    due("10 t", x.fault(-1), BAD);
    Checks.write(x, 0, "w1l010");
    x.put(0, 5, 48 + 256);
    due("10 cut to a byte", x.fault(0), NONE);
    x.put(0, 3, -1);
    due("10 a byte below 0", x.fault(0), 3);
  }

  private static void town() {
    WashSails x = Checks.town(SIX);
    due("11 lines", x.count(0), 6);
    x.hang(0);
    x.hour();
    x.keep(1);
    Checks.write(x, 1, "w1l01");
    long before = x.digest();
    due("11 fault", x.town(1), STATE);
    finding(x, "11 missing", x.town(2), NOTHING);
    due("11 t", x.town(4), BAD);
    due("11 t", x.town(-1), BAD);
    due("11 refused changes nothing", x.digest(), before);
    Checks.write(x, 1, "w4 o599");
    due("11 anew", x.town(1), 1);
    int[] want = {1, 0, 0, 0, 0, 1, 1, 0, 2, 0};
    for (int what = 0; what <= 9; what++) due("11 count " + what, x.count(what), want[what]);
    due("11 miles anew", x.miles(), 0);
    due("11 turn anew", x.upper(), 0);
    finding(x, "11 kept towns go", x.on(1), NOTHING);
    x.hang(0);
    x.text(1, 0);
    due("11 the text may go", x.hour(), 1);
    Checks.told(x, "11", 20, 80, 1);
  }

  private static void line() {
    WashSails x = Checks.town(SIX);
    int[][] want = {{0, -4, 3, 4, 0, 0, 6}, {1, 1, 4, 2, 0, 0, 10}, {2, 0, 5, 5, 0, 0, 0},
        {3, 2, 2, 1, 0, 0, -4}, {4, -2, 3, 5, 0, 0, 16}, {5, 4, 7, 1, 0, 0, 10}};
    for (int i = 0; i < 6; i++) {
      for (int what = 0; what <= 6; what++) {
        due("12", x.line(i, what), 1);
        due("12 line " + i + " " + what, x.asked(), want[i][what]);
      }
    }
    x.hang(2);
    x.hour();
    x.line(2, 6);
    due("12 a blanket in a wind of 3", x.asked(), 15);
    x.line(2, 4);
    due("12 hung out", x.asked(), 1);
    due("12 i", x.line(6, 0), BAD);
    due("12 i", x.line(-1, 0), BAD);
    due("12 what", x.line(0, 7), BAD);
    due("12 what", x.line(0, -1), BAD);
    due("12 refused tells nothing", x.asked(), 1);
  }

  private static void mark() {
    WashSails x = Checks.town(SIX);
    due("13 sheet", x.mark(1, 1), 25);
    due("13 bolster as a sheet", x.mark(4, 1), 40);
    due("13 pennant as a sheet", x.mark(5, 1), 26);
    due("13 blanket", x.mark(2, 2), 1);
    due("13 bolster", x.mark(4, 4), 2);
    due("13 pennant as a bolster", x.mark(5, 4), 5);
    due("13 pennant", x.mark(5, 5), 22);
    x.hang(3);
    due("13 black, itself hung", x.mark(3, 3), 0);
    x.hang(0);
    x.hang(5);
    due("13 black", x.mark(3, 3), 2);
    finding(x, "13 a sheet is no bolster", x.mark(1, 4), UNLIKE);
    finding(x, "13 a line is no sheet", x.mark(0, 1), UNLIKE);
    finding(x, "13 a bolster is no pennant", x.mark(4, 5), UNLIKE);
    finding(x, "13 a blanket is no black", x.mark(2, 3), UNLIKE);
    due("13 kind 0", x.mark(0, 0), BAD);
    due("13 kind 6", x.mark(0, 6), BAD);
    due("13 kind", x.mark(0, -1), BAD);
    due("13 i", x.mark(6, 1), BAD);
    due("13 i", x.mark(-1, 1), BAD);
    due("13 none", Checks.town("w012b010").mark(0, 2), NONE);
    due("13 in 7", Checks.town("w00000003b010").mark(0, 2), 7);
    due("13 now", Checks.town("w3b010").mark(0, 2), 0);
    WashSails y = Checks.town("w302b010");
    y.hour();
    due("13 from this one on", y.mark(0, 2), 2);
  }

  private static void wind() {
    WashSails x = new WashSails();
    due("14 no lines", x.wind(0), STATE);
    due("14 BAD ahead", x.wind(1000), BAD);
    x = Checks.town(SIX);
    due("14", x.wind(0), 2);
    due("14", x.wind(3), 5);
    due("14 again from the first on", x.wind(4), 2);
    due("14", x.wind(999), 5);
    due("14 below", x.wind(-1), BAD);
    due("14 above", x.wind(1000), BAD);
  }

  private static WashSails withDeeds(String town, int deeds) {
    WashSails x = Checks.town(town);
    for (int d = 0; d < deeds; d++) {
      if (d % 2 == 0) x.hang(0); else x.take(0);
    }
    return x;
  }

  private static void hangAndTake() {
    WashSails x = Checks.town(SIX);
    due("15", x.hang(5), 1);
    due("15", x.hang(0), 2);
    due("15 it is", x.hang(0), STATE);
    due("15 i", x.hang(6), BAD);
    due("15 i", x.hang(-1), BAD);
    x.hour();
    x.hour();
    x.hour();
    due("16 how wet", x.take(0), 2);
    due("16 it is not", x.take(0), STATE);
    due("16 i", x.take(6), BAD);
    due("16 i", x.take(-1), BAD);
    due("16 count", x.count(3), 1);
    due("15 no lines", new WashSails().hang(0), BAD);
    due("16 no lines", new WashSails().take(0), BAD);
    x = withDeeds("w1l010l010", 39);
    due("15 the fortieth", x.hang(1), 2);
    due("15 full", x.count(2), 40);
    due("15 STATE ahead of FULL", x.hang(0), STATE);
    due("16 FULL", x.take(0), FULL);
    x = withDeeds("w1l010l010", 40);
    due("15 FULL", x.hang(1), FULL);
    due("15 BAD ahead of FULL", x.hang(2), BAD);
    due("16 STATE ahead of FULL", x.take(0), STATE);
    due("16 BAD ahead of FULL", x.take(2), BAD);
    due("15 nothing changes", x.count(3), 0);
  }

  private static void hour() {
    WashSails x = new WashSails();
    due("17 no lines", x.hour(), STATE);
    x = Checks.town(SIX);
    x.hang(0);
    x.hang(4);
    due("17", x.hour(), 1);
    Checks.told(x, "17 22 by 4, -24 and -32", 5, -56, 1);
    due("17 the hour", x.count(1), 1);
    due("17 the deeds", x.count(2), 3);
    x = withDeeds("w1l010", 40);
    due("17 FULL", x.hour(), FULL);
    x = Checks.town("w3k890");
    x.hang(0);
    x.hour();
    Checks.told(x, "17 -27 by 4 towards 0", -6, -108, 1);
    x.hour();
    Checks.told(x, "17 more", -12, -216, 1);
    x = Checks.town("w0050l010l010");
    x.hang(0);
    int[] wet = {2, 4, 3, 5, 7, 9, 8, 9, 9, 9, 8};
    for (int h = 0; h < wet.length; h++) {
      x.hour();
      x.line(0, 5);
      due("17 wet behind hour " + h, x.asked(), wet[h]);
    }
    x.line(1, 5);
    due("17 who is not hung out stays", x.asked(), 0);
    x = Checks.town("w1l010");
    x.hang(0);
    x.hour();
    x.line(0, 5);
    due("17 dry stays dry", x.asked(), 0);
  }

  private static void undo() {
    WashSails x = Checks.town(SIX);
    due("18 none", x.undo(0), 0);
    due("18 n", x.undo(1), BAD);
    due("18 n", x.undo(-1), BAD);
    x.hang(4);
    x.hour();
    x.hour();
    x.hour();
    long then = x.digest();
    x.take(4);
    x.hang(1);
    x.hour();
    due("18", x.undo(4), 3);
    due("18 as it was", x.digest(), then);
    due("18 nothing more", x.undo(4), 0);
    due("18 all", x.undo(0), 4);
    due("18 hour", x.count(1), 0);
    due("18 miles", x.miles(), 0);
    due("18 turn", x.upper(), 0);
    due("18 hung", x.count(3), 0);
    due("18 wet", x.count(4), 0);
    x = withDeeds("w1l010", 40);
    x.undo(39);
    due("18 room again", x.hour(), 1);
  }

  private static void keepAndOn() {
    WashSails x = new WashSails();
    due("19 no lines", x.keep(0), STATE);
    due("19 BAD ahead", x.keep(3), BAD);
    x = Checks.town(SIX);
    finding(x, "20 missing", x.on(2), NOTHING);
    due("19 no deeds", x.keep(0), 0);
    x.hang(4);
    x.hour();
    x.hour();
    x.hour();
    due("19", x.keep(2), 4);
    due("19 count", x.count(9), 2);
    long then = x.digest();
    x.undo(1);
    x.hang(0);
    due("20", x.on(2), 4);
    due("20 as it was", x.digest(), then);
    due("20 gone on from", x.take(4), 2);
    due("20 still kept", x.on(2), 4);
    due("20 as it was", x.digest(), then);
    due("20 can be undone", x.undo(1), 3);
    due("20 no deeds", x.on(0), 0);
    due("20 hour", x.count(1), 0);
    due("19 anew", x.keep(2), 0);
    due("19 k", x.keep(-1), BAD);
    due("20 k", x.on(3), BAD);
    due("20 k", x.on(-1), BAD);
  }

  private static void goes() {
    WashSails x = Checks.town(SIX);
    due("21", x.goes(17), 1);
    Checks.told(x, "21", 5, -56, 1);
    due("21 below 0", x.goes(8), 1);
    Checks.told(x, "21 below 0", -1, -8, 1);
    due("21 all", x.goes(63), 1);
    Checks.told(x, "21 all", 9, -14, 1);
    due("21 no set", x.goes(64), BAD);
    due("21 no set", x.goes(-1), BAD);
    x.hang(4);
    x.hour();
    x.goes(0);
    Checks.told(x, "21 aside", 0, 0, 1);
    due("21 no lines", new WashSails().goes(1), BAD);
  }

  private static void even() {
    WashSails x = Checks.town(SIX);
    due("22", x.even(5), 1);
    Checks.told(x, "22", 56, 2, 1);
    due("22 by none", x.even(-3), 1);
    Checks.told(x, "22 by none", NONE, 0, 1);
    // Three pairs that go 2 miles on and do not turn, of linen 5, 3, 3.
    x = Checks.town("w1 l042 l843 l241l642 l440");
    x.even(2);
    Checks.told(x, "22 the least linen", 12, 2, 1);
    x.even(0);
    Checks.told(x, "22 nothing", 0, 1, 1);
    x = Checks.town("w1 l442 l442");
    x.even(1);
    Checks.told(x, "22 the least number of as little", 1, 2, 1);
    due("22 above", x.even(100), BAD);
    due("22 below", x.even(-100), BAD);
    due("22 edge", x.even(99), 1);
    due("22 edge", x.even(-99), 1);
    due("22 no lines", new WashSails().even(0), STATE);
    due("22 BAD ahead", new WashSails().even(100), BAD);
  }

  private static void fast() {
    WashSails x = Checks.town(SIX);
    due("23", x.fast(3), 5);
    due("23 set", x.asked(), 34);
    due("23 none", x.fast(0), 0);
    due("23 set", x.asked(), 0);
    due("23 all", x.fast(99), 10);
    due("23 set", x.asked(), 51);
    due("23 above", x.fast(100), BAD);
    due("23 below", x.fast(-1), BAD);
    due("23 no lines", new WashSails().fast(0), STATE);
    due("23 BAD ahead", new WashSails().fast(-1), BAD);
    x = Checks.town("w1l092l091l090");
    due("23 18 by 4", x.fast(1), 4);
    due("23 set", x.asked(), 6);
    x = Checks.town("w1l090l090");
    due("23 both", x.fast(0), 4);
    x = Checks.town("w1l040l040k480");
    due("23 the first alone, too", x.fast(0), 2);
    x = Checks.town("w1l040l010l010");
    due("23 the least number of as far", x.fast(0), 1);
    due("23 set", x.asked(), 1);
    x = Checks.town("w1l012l091l090");
    due("23 no more linen than is of use", x.fast(99), 4);
    due("23 set", x.asked(), 6);
  }

  private static void wet() {
    WashSails x = new WashSails();
    due("24 no lines", x.wet(), 0);
    x = Checks.town("w00l010l010l010");
    x.hang(0);
    x.hang(2);
    x.hour();
    x.take(0);
    x.hour();
    due("24 hung out or not", x.wet(), 5);
    due("24 all", x.asked(), 6);
    due("24 tells", x.upper(), 0);
  }

  private static void plansAreRefused() {
    WashSails x = new WashSails();
    due("25 BAD ahead of STATE", x.sail(6), BAD);
    due("25 STATE ahead of NOTHING", x.sail(0), STATE);
    due("26 BAD", x.dry(-1), BAD);
    due("26 STATE", x.dry(0), STATE);
    due("34 BAD", x.mid(6, 0), BAD);
    due("34 p", x.mid(0, 13), BAD);
    due("34 p", x.mid(0, -1), BAD);
    due("34 STATE", x.mid(0, 12), STATE);
    due("35 BAD", x.odds(-1, 0, 0), BAD);
    due("35 p", x.odds(0, 0, 13), BAD);
    due("35 p", x.odds(0, 0, -1), BAD);
    due("35 p edge", x.odds(0, 0, 12), STATE);
    due("35 miles", x.odds(0, 1000, 0), BAD);
    due("35 miles", x.odds(0, -1000, 0), BAD);
    due("35 STATE", x.odds(0, 999, 0), STATE);
    x = Checks.town(SIX);
    plansAreRefused(x, NOTHING);
    Checks.lay(x, 0, 0, 0, 0, 0, 0, 0, 64);
    plansAreRefused(x, SIZE);
    Checks.lay(x, 0, 0, 0, 0, 0, 0, 64);
    plansAreRefused(x, UNLIKE);
    Checks.lay(x, 0, -1);
    plansAreRefused(x, UNLIKE);
    due("25 findings", x.findings(UNLIKE), 8);
    due("25 tells nothing", x.asked(), 0);
  }

  private static void plansAreRefused(WashSails x, int f) {
    finding(x, "25", x.sail(0), f);
    finding(x, "26", x.dry(0), f);
    finding(x, "34", x.mid(0, 1), f);
    finding(x, "35", x.odds(0, 1, 1), f);
  }

  private static void sail() {
    WashSails x = Checks.town(SIX);
    x.row(0, 0);
    due("25 no hours", x.sail(0), 1);
    Checks.told(x, "25 no hours", 0, 0, 1);
    Checks.lay(x, 0, 17, 0, 63, 4);
    due("25", x.sail(0), 1);
    Checks.told(x, "25 22 by 4, 25 by 4", 11, -56, 1);
    x.hang(4);
    x.hour();
    Checks.lay(x, 0, 8);
    due("25 all, from this hour on", x.sail(0), 1);
    Checks.told(x, "25 4 and -6 by 4", 3, -44, 1);
    due("25 nothing is done", x.miles(), 4);
  }

  private static void dry() {
    WashSails x = Checks.town("w003l010l010l010");
    Checks.lay(x, 0, 1, 3, 7);
    due("26 4, 2, 0 and 1 less", x.dry(0), 4);
    x.hang(1);
    x.hour();
    x.row(0, 0);
    due("26 now", x.dry(0), 5);
    Checks.lay(x, 0, 0, 2);
    due("26 one less", x.dry(0), 5);
    x.hour();
    x.hour();
    x.undo(2);
    Checks.lay(x, 0, 1, 3, 0, 0, 0, 0);
    due("26 from this hour on", x.dry(0), 4);
    due("26 nothing is done", x.count(4), 2);
    Checks.lay(x, 0, 0, 2);
    x.undo(0);
    due("26 rain, behind it", x.dry(0), 5);
  }

  private static void far() {
    WashSails x = Checks.town(SIX);
    due("27 no hours", x.far(0, 0, 1), 1);
    due("27 told", x.asked(), 0);
    finding(x, "27 a row of none", x.at(1, 0), BEYOND);
    due("27", x.far(1, 9, 5), 1);
    due("27 told", x.asked(), 10);
    x.at(5, 0);
    due("27 the plan", x.asked(), 51);
    x.row(5, 9);
    x.far(2, 999, 5);
    finding(x, "27 anew", x.at(5, 2), BEYOND);
    due("27 n", x.far(4, 0, 0), BAD);
    due("27 n", x.far(-1, 0, 0), BAD);
    due("27 t", x.far(0, -1, 0), BAD);
    due("27 t", x.far(0, 1000, 0), BAD);
    due("27 r", x.far(0, 0, 6), BAD);
    due("27 r", x.far(0, 0, -1), BAD);
    due("27 no lines", new WashSails().far(0, 0, 0), STATE);
    due("27 BAD ahead", new WashSails().far(4, 0, 0), BAD);
    // Turned by 180 an hour, with no line to turn it back.
    x = Checks.town("w5l890");
    x.hang(0);
    x.hour();
    x.hour();
    x.at(0, 0);
    x.miles();
    due("27 turned by", x.upper(), 360);
    long before = x.digest();
    due("27 NONE", x.far(1, 359, 0), NONE);
    due("27 NONE changes nothing", x.digest(), before);
    due("27 no hour, no limit", x.far(0, 359, 0), 1);
    due("27 all", x.asked(), 22);
    due("27 just so", x.far(3, 360, 0), 1);
    due("27 stays", x.asked(), 22);
    due("27 one more", x.far(3, 540, 0), 1);
    due("27 one more", x.asked(), 33);
    int[] plan = {0, 0, 1};
    for (int k = 0; k < 3; k++) {
      x.at(0, k);
      due("27 the first plan", x.asked(), plan[k]);
    }
    x = Checks.town("w5k890");
    x.hang(0);
    x.hour();
    x.far(1, 180, 0);
    due("27 below 0, too", x.asked(), -11);
    due("27 below 0, too", x.far(1, 179, 0), NONE);
    // Both together go 18 miles an hour and turn by -20; either alone turns by 140 or more.
    x = Checks.town("w5l870l080");
    x.far(3, 60, 0);
    due("27 both each hour", x.asked(), 54);
    x.far(3, 59, 0);
    due("27 both in two hours", x.asked(), 36);
    x.far(3, 20, 0);
    due("27 both in one hour", x.asked(), 18);
    x.far(3, 19, 0);
    due("27 none", x.asked(), 0);
  }

  private static void soon() {
    WashSails x = Checks.town(SIX);
    due("28 now", x.soon(0), 0);
    due("28", x.soon(1), 1);
    due("28 10", x.soon(10), 1);
    due("28 11", x.soon(11), 2);
    due("28 29", x.soon(29), 2);
    due("28 30", x.soon(30), NONE);
    due("28 edge", x.soon(-999), 0);
    due("28 edge", x.soon(999), NONE);
    due("28 above", x.soon(1000), BAD);
    due("28 below", x.soon(-1000), BAD);
    due("28 no lines", new WashSails().soon(0), STATE);
    due("28 BAD ahead", new WashSails().soon(1000), BAD);
    x.hang(4);
    x.hour();
    due("28 all", x.soon(4), 0);
    due("28 all", x.soon(5), 1);
    x = Checks.town("w001l090");
    due("28 the third", x.soon(2), 3);
    due("28 not in 3", x.soon(3), NONE);
  }

  private static void least() {
    WashSails x = Checks.town(SIX);
    due("29 none", x.least(0, 0), 0);
    due("29 none", x.least(3, 0), 0);
    due("29 in no hours", x.least(0, 1), NONE);
    due("29 pennant", x.least(1, 2), 1);
    due("29 sheet and pennant", x.least(1, 5), 3);
    due("29 a line counts once", x.least(2, 6), 1);
    due("29 too far", x.least(3, 300), NONE);
    due("29 n", x.least(4, 0), BAD);
    due("29 n", x.least(-1, 0), BAD);
    due("29 no lines", new WashSails().least(0, 0), STATE);
    due("29 BAD ahead", new WashSails().least(4, 0), BAD);
    x.hang(4);
    x.hour();
    due("29 all", x.least(0, 4), 0);
    due("29 all", x.least(1, 5), 1);
  }

  private static void ways() {
    WashSails x = Checks.town(SIX);
    due("30", x.ways(5, 0), 1);
    Checks.told(x, "30", 56, 2, 1);
    due("30 none", x.ways(12, 8), 1);
    Checks.told(x, "30 none", 0, 0, 1);
    x = Checks.town("w1l642l642l442");
    x.ways(1, 8);
    Checks.told(x, "30 either", 0, 2, 1);
    x.ways(2, 8);
    Checks.told(x, "30 either and the third", 4, 2, 1);
    x.ways(3, 16);
    Checks.told(x, "30 all", 7, 1, 1);
    due("30 edge", x.ways(99, 999), 1);
    due("30 edge", x.ways(-99, -999), 1);
    due("30 miles", x.ways(100, 0), BAD);
    due("30 miles", x.ways(-100, 0), BAD);
    due("30 turn", x.ways(0, 1000), BAD);
    due("30 turn", x.ways(0, -1000), BAD);
    due("30 no lines", new WashSails().ways(0, 0), STATE);
    due("30 BAD ahead", new WashSails().ways(100, 0), BAD);
  }

  private static void kindsAndAreas() {
    WashSails x = Checks.town(SIX);
    finding(x, "31 missing", x.kinds(0, 0), NOTHING);
    finding(x, "32 missing", x.areas(0, 0), NOTHING);
    x.row(0, 0);
    due("31 no pairs", x.kinds(0, 0), 63);
    due("32 no pairs", x.areas(0, 0), 1022);
    Checks.lay(x, 0, 6, 18);
    due("31 line or blanket", x.kinds(0, 0), 5);
    due("32 area", x.areas(0, 0), 8);
    Checks.lay(x, 0, 6, 18, 2, 6);
    due("31 a line", x.kinds(0, 0), 1);
    Checks.lay(x, 0, 1, 1);
    due("32 pennants of one area", x.areas(5, 0), 2);
    Checks.lay(x, 0, 2, 0);
    due("32 a blanket, any", x.areas(2, 0), 1022);
    Checks.lay(x, 0, 2, 8);
    due("32 two areas of a pennant", x.areas(5, 0), 1 << 5);
    Checks.lay(x, 0, 1, 4);
    due("32 cut", x.areas(5, 0), 1 << 5 | 1 << 6);
    Checks.lay(x, 0, 3, -6);
    due("31 black", x.kinds(3, 0), 8);
    due("32 black", x.areas(3, 0), 4);
    Checks.lay(x, 0, 1, 8, 3, 24);
    due("31 bolster", x.kinds(4, 0), 16);
    x.row(0, 20);
    due("31 ten pairs", x.kinds(0, 0), 63);
    due("32 ten pairs", x.areas(0, 0), 1022);
    x.row(0, 22);
    finding(x, "31 eleven pairs", x.kinds(0, 0), SIZE);
    finding(x, "32 eleven pairs", x.areas(0, 0), SIZE);
    Checks.lay(x, 0, 7, 0, 0);
    finding(x, "31 SIZE ahead of UNLIKE", x.kinds(0, 0), SIZE);
    finding(x, "32 SIZE ahead of UNLIKE", x.areas(0, 0), SIZE);
    Checks.lay(x, 0, 0, 0, 7, 0);
    finding(x, "31 no such wind", x.kinds(0, 0), UNLIKE);
    finding(x, "32 no such wind", x.areas(0, 0), UNLIKE);
    Checks.lay(x, 0, -1, 0);
    finding(x, "31 no such wind", x.kinds(0, 0), UNLIKE);
    finding(x, "32 no such wind", x.areas(0, 0), UNLIKE);
    due("31 i", x.kinds(6, 0), BAD);
    due("31 i", x.kinds(-1, 0), BAD);
    due("31 r", x.kinds(0, 6), BAD);
    due("32 i", x.areas(6, 0), BAD);
    due("32 r", x.areas(0, -1), BAD);
  }

  private static void rival() {
    WashSails x = new WashSails();
    due("33 no lines", x.rival(0), STATE);
    due("33 BAD ahead", x.rival(3), BAD);
    x = Checks.town(SIX);
    due("33 n", x.rival(-1), BAD);
    due("33", x.rival(1), 1);
    due("33 what is hung out is taken in", x.asked(), 0);
    x.hang(1);
    x.hang(4);
    due("33 as it is", x.rival(0), 1);
    due("33 26 by 4", x.asked(), 6);
    due("33", x.rival(1), 1);
    due("33 a pennant more, the bolster less", x.asked(), 5);
    due("33", x.rival(2), 1);
    due("33 the bolster again, and gone again", x.asked(), 5);
    due("33 nothing is done", x.count(3), 2);
    x = Checks.town("w4k010k010");
    x.hang(0);
    x.rival(2);
    due("33 none", x.asked(), -1);
    x = Checks.town("w4l410");
    x.hang(0);
    x.rival(1);
    due("33 the first line goes, too", x.asked(), 0);
  }

  private static void mid() {
    WashSails x = Checks.town(SIX);
    x.row(0, 0);
    due("34 no hours", x.mid(0, 7), 1);
    Checks.share(x, "34 no hours", 0, 1);
    Checks.lay(x, 0, 16);
    due("34", x.mid(0, 6), 1);
    Checks.share(x, "34 4 or 6", 5, 1);
    x.mid(0, 3);
    Checks.share(x, "34 4 or 6, 3 of 12", 9, 2);
    Checks.lay(x, 0, 4);
    x.mid(0, 4);
    Checks.share(x, "34 a blanket by gusts: 0, or 3", 1, 1);
    x.mid(0, 5);
    Checks.share(x, "34", 5, 4);
    Checks.lay(x, 0, 8, 8);
    x.mid(0, 0);
    Checks.share(x, "34 below 0: -1 and -1", -2, 1);
    x.mid(0, 7);
    Checks.share(x, "34 -1 and -1 or -2", -31, 12);
    x.hang(4);
    x.hour();
    Checks.lay(x, 0, 8);
    x.at(0, 0);
    x.mid(0, 6);
    Checks.share(x, "34 all: 4 less 1 or 2", 5, 2);
    due("34 asked stays", x.asked(), 8);
  }

  private static void odds() {
    WashSails x = Checks.town(SIX);
    x.row(0, 0);
    due("35 no hours", x.odds(0, 0, 7), 1);
    Checks.share(x, "35 surely", 1, 1);
    due("35 no hours", x.odds(0, 1, 7), 1);
    Checks.share(x, "35 never", 0, 1);
    Checks.lay(x, 0, 16, 16);
    x.odds(0, 11, 4);
    Checks.share(x, "35 4 or 6, 6 or 8: 12", 5, 9);
    x.odds(0, 14, 4);
    Checks.share(x, "35 both", 1, 9);
    x.odds(0, 15, 4);
    Checks.share(x, "35 never", 0, 1);
    x.odds(0, 10, 4);
    Checks.share(x, "35 surely", 1, 1);
    Checks.lay(x, 0, 16, 16, 16, 16, 16, 16);
    x.odds(0, 999, 1);
    Checks.share(x, "35 edge", 0, 1);
    x.odds(0, -999, 1);
    Checks.share(x, "35 edge", 1, 1);
    // 4 6 0 12 4 6 and at most 2 2 4 4 2 2 more (a bolster of area 3 has 8 for each wind).
    x.odds(0, 4 + 6 + 0 + 10 + 4 + 6 + 12, 1);
    Checks.share(x, "35 all six", 1, 2985984);
    x.hang(4);
    x.hour();
    Checks.lay(x, 0, 16);
    x.odds(0, 12, 5);
    Checks.share(x, "35 all", 5, 12);
  }

  private static void lots() {
    WashSails x = Checks.town("w5l492l493l494");
    due("36", x.lots(2, 1), 1);
    // 48271 is 1 modulo 3, 182605794 is 0.
    due("36 11 and 22", x.asked(), 33);
    due("36 deeds", x.count(2), 4);
    due("36 hung", x.count(3), 2);
    x.line(1, 4);
    due("36 the second", x.asked(), 1);
    due("36 undone", x.undo(2), 2);
    due("36 the first hour alone", x.miles(), 11);
    due("36 n", x.lots(0, 1), BAD);
    due("36 n", x.lots(21, 1), BAD);
    due("36 seed", x.lots(1, 0), BAD);
    due("36 seed", x.lots(1, MOST), BAD);
    due("36 seed edge", x.lots(1, MOST - 1), 1);
    due("36 no lines", new WashSails().lots(1, 1), STATE);
    due("36 BAD ahead", new WashSails().lots(0, 1), BAD);
    x = Checks.town("w1l410");
    due("36 in turn out and in", x.lots(20, 7), 1);
    due("36 none left", x.count(2), 40);
    due("36 hung out, taken in", x.count(3), 0);
    due("36 FULL", x.lots(1, 7), FULL);
    x.undo(38);
    due("36 FULL", x.lots(2, 7), FULL);
    due("36 room", x.lots(1, 7), 1);
    x = Checks.town("w1l410");
    x.hang(0);
    due("36 FULL", x.lots(20, 7), FULL);
    due("36 19", x.lots(19, 7), 1);
  }

  private static void whatIsTold() {
    WashSails x = Checks.town(SIX);
    x.goes(17);
    x.even(200);
    x.soon(1);
    x.least(1, 1);
    x.mark(1, 1);
    x.count(0);
    x.wind(1);
    Checks.told(x, "37 to 39 stay", 5, -56, 1);
    Checks.lay(x, 0, 16);
    Checks.told(x, "37 what lay told", 0, -56, 1);
    x.mid(0, 3);
    Checks.told(x, "38 what mid told", 0, 9, 2);
    x.fast(3);
    Checks.told(x, "37 what fast told", 34, 9, 2);
    x.sail(0);
    Checks.told(x, "37 what sail told", 4, -32, 1);
    x.far(1, 9, 1);
    Checks.told(x, "37 what far told", 10, -32, 1);
    x.hang(4);
    x.hour();
    x.goes(0);
    due("41", x.miles(), 4);
    Checks.told(x, "41 turn", 0, -32, 1);
    Checks.lay(x, 2, 5, 6);
    x.mean(2);
    due("37 what mean told", x.asked(), 5);
    x.rival(0);
    due("37 what rival told", x.asked(), 6);
    x.wet();
    due("37 what wet told", x.asked(), 0);
  }

  private static void count() {
    WashSails x = Checks.town(SIX);
    x.hang(4);
    x.hang(1);
    x.hour();
    x.hour();
    x.hour();
    x.keep(0);
    x.row(1, 1);
    x.row(2, 0);
    int[] want = {6, 3, 5, 2, 4, 3, 2, 2, 1, 1};
    for (int what = 0; what <= 9; what++) due("40 " + what, x.count(what), want[what]);
    due("40 above", x.count(10), BAD);
    due("40 below", x.count(-1), BAD);
  }

  private static void findings() {
    WashSails x = new WashSails();
    x.at(0, 0);
    x.at(1, 0);
    x.row(0, -1);
    due("42", x.finding(), SIZE);
    x.row(0, 0);
    x.mean(0);
    due("42", x.finding(), NOUGHT);
    x.at(0, 0);
    due("42 BAD is none", x.row(9, 0), BAD);
    due("42", x.finding(), BEYOND);
    int[] want = {2, 1, 0, 1, 1};
    for (int f = 1; f <= 5; f++) due("43 " + f, x.findings(f), want[f - 1]);
    due("43", x.findings(0), BAD);
    due("43", x.findings(6), BAD);
  }

  private static long folded(long... values) {
    long h = 17;
    for (long v : values) h = 31 * h + v;
    return h;
  }

  private static void digest() {
    WashSails x = new WashSails();
    due("44 new", x.digest(), folded(0, 0, 0, 0, 0, 0, 0, 0, 0, 0, 0, 0, -1, -1, -1,
        -1, -1, -1, -1, -1, -1, -1, -1, -1, -1));
    x.text(3, 6);
    String text = "w3k890";
    for (int i = 0; i < 6; i++) x.put(3, i, text.charAt(i));
    x.town(3);
    x.hang(0);
    x.keep(1);
    x.hour();
    x.put(3, 0, 200);
    Checks.lay(x, 4, -5, 7);
    long asked = x.asked();
    due("44", x.digest(), folded(1, 1, 2, 1, 0, 0, 0, 1, 1, 1, -6, -108, 3, 4, 9, 0, 1, 0, -27, -1, 1, -1,
        -1, -1, -1, -1, 2, -5, 7, -1, -1, -1, -1, 6, -56, 51, 107, 56, 57, 48));
    due("44 tells nothing", x.asked(), asked);
  }

  public static void main(String[] args) {
    newObject();
    rows();
    layAndAt();
    tear();
    copy();
    mean();
    textAndPut();
    faults();
    town();
    line();
    mark();
    wind();
    hangAndTake();
    hour();
    undo();
    keepAndOn();
    goes();
    even();
    fast();
    wet();
    plansAreRefused();
    sail();
    dry();
    far();
    soon();
    least();
    ways();
    kindsAndAreas();
    rival();
    mid();
    odds();
    lots();
    whatIsTold();
    count();
    findings();
    digest();
    Checks.end("PromiseTest");
  }
}
