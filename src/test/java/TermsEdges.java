/** The boundary cases of "Terms", a sentence at a time. */
final class TermsEdges extends Edges {
  private static void says(String words) { says(Doc.TERMS, words); }

  static void run() {
    refusals();
    findings();
    told();
    rowsAndTexts();
    blanks();
    winds();
    lines();
    faults();
    kinds();
    pulls();
    atFirst();
    milesAndTurn();
    wetness();
    deeds();
    plans();
    gusts();
    lots();
  }

  private static void refusals() {
    says("Refused is, the first of these that fits, in this order: BAD -1 (a number that is none, or not as told), FULL -2,"
        + " STATE -4 (not now), SPENT -6 (more than told), FINDING -3 (finding() tells which), unless a call says so otherwise.");
    due(WashSails.BAD, -1);
    due(WashSails.FULL, -2);
    due(WashSails.STATE, -4);
    due(WashSails.SPENT, -6);
    due(WashSails.FINDING, -3);
    bad(Edges::fresh, x -> x.wind(1000));
    bad(Edges::fresh, x -> x.sail(6));
    bad(Edges::fresh, x -> x.row(6, -1));
    bad(Edges::six, x -> x.mid(0, 13));
    bad(() -> withDeeds(SIX, 40), x -> x.lots(0, 1));
    refused(Edges::fresh, STATE, x -> x.sail(0));
    refused(() -> withRow(fresh(), 0, 64), STATE, x -> x.dry(0));
    says("NONE -9.");
    due(WashSails.NONE, -9);
    due(withText("w1l010").fault(1), -9);
    says("What is refused changes nothing but finding(), findings().");
    refusedOfAllCalls();
  }

  /** A town behind deeds, kept, with rows 0 (3 sets), 1 (none), 2 (7 places), 3 (pairs), a text with a fault, and all told. */
  private static WashSails rich() {
    WashSails x = six();
    x.hang(4);
    x.hour();
    x.keep(1);
    Checks.lay(x, 0, 16, 1, 63);
    x.row(1, 0);
    x.row(2, 7);
    Checks.lay(x, 3, 7, 1);
    Checks.write(x, 1, "w1l01");
    x.mid(0, 5);
    x.at(0, 2);
    return x;
  }

  private static WashSails richAndFull() {
    WashSails x = rich();
    for (int d = 2; d < 40; d++) x.hour();
    x.mid(0, 5);
    return x;
  }

  private static void refusedOfAllCalls() {
    WashSails x = rich();
    due(x.upper(), 130);
    due(x.lower(), 3);
    due(x.asked(), 63);
    due(richAndFull().lower(), 4);
    bad(TermsEdges::rich, y -> y.row(0, 41));
    found(TermsEdges::rich, SIZE, y -> y.row(0, -1));
    bad(TermsEdges::rich, y -> y.lay(6, 0, 9));
    found(TermsEdges::rich, BEYOND, y -> y.lay(0, 3, 9));
    found(TermsEdges::rich, NOTHING, y -> y.lay(4, 0, 9));
    found(TermsEdges::rich, BEYOND, y -> y.at(0, 3));
    found(TermsEdges::rich, NOTHING, y -> y.tear(5));
    found(TermsEdges::rich, BEYOND, y -> y.copy(0, 0, 2, 5, 3));
    found(TermsEdges::rich, NOUGHT, y -> y.mean(1));
    bad(TermsEdges::rich, y -> y.text(0, 61));
    found(TermsEdges::rich, SIZE, y -> y.text(0, -1));
    found(TermsEdges::rich, BEYOND, y -> y.put(1, 5, 9));
    found(TermsEdges::rich, NOTHING, y -> y.fault(2));
    refused(TermsEdges::rich, STATE, y -> y.town(1));
    bad(TermsEdges::rich, y -> y.line(6, 0));
    found(TermsEdges::rich, UNLIKE, y -> y.mark(0, 1));
    bad(TermsEdges::rich, y -> y.wind(-1));
    refused(TermsEdges::rich, STATE, y -> y.hang(4));
    refused(TermsEdges::rich, STATE, y -> y.take(0));
    refused(TermsEdges::richAndFull, FULL, y -> y.hang(0));
    refused(TermsEdges::richAndFull, FULL, y -> y.take(4));
    refused(TermsEdges::richAndFull, FULL, y -> y.hour());
    refused(TermsEdges::richAndFull, FULL, y -> y.lots(1, 1));
    bad(TermsEdges::rich, y -> y.undo(3));
    bad(TermsEdges::rich, y -> y.keep(3));
    found(TermsEdges::rich, NOTHING, y -> y.on(0));
    bad(TermsEdges::rich, y -> y.goes(64));
    bad(TermsEdges::rich, y -> y.even(100));
    bad(TermsEdges::rich, y -> y.fast(100));
    found(TermsEdges::rich, SIZE, y -> y.sail(2));
    found(TermsEdges::rich, SIZE, y -> y.dry(2));
    bad(TermsEdges::rich, y -> y.far(4, 9, 0));
    bad(TermsEdges::rich, y -> y.soon(1000));
    bad(TermsEdges::rich, y -> y.least(4, 0));
    bad(TermsEdges::rich, y -> y.ways(0, 1000));
    found(TermsEdges::rich, UNLIKE, y -> y.kinds(0, 3));
    found(TermsEdges::rich, UNLIKE, y -> y.areas(0, 3));
    bad(TermsEdges::rich, y -> y.rival(3));
    found(TermsEdges::rich, SIZE, y -> y.mid(2, 5));
    found(TermsEdges::rich, SIZE, y -> y.odds(2, 0, 5));
    bad(TermsEdges::rich, y -> y.count(10));
    bad(TermsEdges::rich, y -> y.findings(6));
  }

  private static void findings() {
    says("FINDINGS: 1 NOTHING (a ROW, a TEXT, a kept TOWN that is missing),");
    for (int r = 0; r <= 5; r++) {
      int row = r;
      found(Edges::fresh, 1, x -> x.at(row, 0));
    }
    for (int t = 0; t <= 3; t++) {
      int text = t;
      found(Edges::fresh, 1, x -> x.put(text, 0, 1));
    }
    for (int k = 0; k <= 2; k++) {
      int place = k;
      found(Edges::six, 1, x -> x.on(place));
    }
    says("2 BEYOND (a place of a ROW, a TEXT that there is not),");
    found(() -> withRow(fresh(), 0, 4, 5), 2, x -> x.at(0, 2));
    found(() -> withRow(fresh(), 0, 4, 5), 2, x -> x.at(0, -1));
    found(() -> withText("w1"), 2, x -> x.put(1, 2, 0));
    found(() -> withText("w1"), 2, x -> x.put(1, -1, 0));
    says("3 UNLIKE (a LINE of another KIND; a number that is none),");
    found(Edges::six, 3, x -> x.mark(1, 4));
    found(() -> withRow(six(), 0, 64), 3, x -> x.sail(0));
    found(() -> withRow(six(), 0, 7, 0), 3, x -> x.kinds(0, 0));
    says("4 NOUGHT (shared among none),");
    found(() -> withRow(fresh(), 0), 4, x -> x.mean(0));
    says("5 SIZE (fewer than none; too many, not as many as due).");
    found(Edges::fresh, 5, x -> x.row(0, -1));
    found(() -> withRow(six(), 0, 0, 0, 0, 0, 0, 0, 0), 5, x -> x.sail(0));
    found(() -> withRow(six(), 0, 1), 5, x -> x.kinds(0, 0));
  }

  private static void told() {
    says("Chances, means, numbers of ways are told by upper(), lower(), in lowest terms, the lower number above 0 (0 by 1).");
    WashSails x = withRow(six(), 0, 16, 16);
    shares(x, x.odds(0, 11, 4), 5, 9);
    shares(x, x.odds(0, 11, 0), 0, 1);
    shares(x, x.odds(0, 11, 12), 1, 1);
    shares(x, x.odds(0, 14, 6), 1, 4);
    // A BLACK of area 2: -1, or -1 by a gust, then -1, or -2.
    withRow(x, 0, 8, 8);
    shares(x, x.mid(0, 6), -5, 2);
    shares(x, x.mid(0, 0), -2, 1);
    withRow(x, 0, 0, 0);
    shares(x, x.mid(0, 5), 0, 1);
    shares(x, x.ways(0, 0), 2, 1);
    shares(x, x.ways(99, 0), 0, 1);
    says("Sets (of LINES, of KINDS) are told by bits.");
    WashSails y = Checks.town("w0l010l010l010l010l010l010");
    for (int i = 0; i < 6; i += 5) y.hang(i);
    y.hour();
    due(y.wet(), 33);
    withRow(y, 0);
    due(y.dry(0), 30);
    due(y.kinds(0, 0), 63);
  }

  private static void rowsAndTexts() {
    says("ROWS 0 .. 5 are rows of 0 to 40 ints, TEXTS 0 .. 3 rows of 0 to 60 bytes, or missing (at first).");
    WashSails x = fresh();
    counts(x, 0, 0, 0, 0, 0, 0, 0, 0, 0, 0);
    for (int r = 0; r <= 5; r++) due(x.row(r, 40), 40);
    for (int t = 0; t <= 3; t++) due(x.text(t, 60), 60);
    for (int r = 0; r <= 5; r++) {
      x.lay(r, 0, 10 + r);
      x.lay(r, 39, r % 2 == 0 ? LEAST : MOST);
    }
    for (int t = 0; t <= 3; t++) x.put(t, 59, 40 + t);
    for (int r = 0; r <= 5; r++) {
      due(at(x, r, 0), 10 + r);
      due(at(x, r, 39), r % 2 == 0 ? LEAST : MOST);
    }
    for (int t = 0; t <= 3; t++) due(x.put(t, 59, 0), 1040 + t);
    counts(x, 0, 0, 0, 0, 0, 0, 0, 6, 4, 0);
    due(x.row(0, 0), 0);
    due(x.text(0, 0), 0);
    counts(x, 0, 0, 0, 0, 0, 0, 0, 6, 4, 0);
    bad(Edges::fresh, y -> y.row(6, 0));
    bad(Edges::fresh, y -> y.text(4, 0));
  }

  /** A text whose fault is there, and which is no town, but where the fault is NONE. */
  private static void faultIs(String text, int want) {
    WashSails x = withText(text);
    due(x.fault(1), want);
    due(x.town(1) > 0 ? 1 : 0, want == NONE ? 1 : 0);
    // Whatever was read ahead of it has no part in it.
    WashSails y = six();
    Checks.write(y, 1, text);
    due(y.fault(1), want);
    due(y.fault(0), NONE);
    due(y.town(1) > 0 ? 1 : 0, want == NONE ? 1 : 0);
  }

  private static void blanks() {
    says("A TOWN (without LINES at first) is a TEXT: blanks (32) ahead, between, behind as many as wanted, none within items.");
    due(fresh().count(0), 0);
    faultIs("w1l010s010", NONE);
    faultIs(" w1 l010 s010 ", NONE);
    String many = " ".repeat(13);
    faultIs(many + "w1" + many + "l010" + many + "s010" + " ".repeat(11), NONE);
    faultIs(" ".repeat(54) + "w1l010", NONE);
    faultIs("w1" + " ".repeat(54) + "l010", NONE);
    faultIs("w1l010" + " ".repeat(54), NONE);
    faultIs("w 1l010", 1);
    faultIs("w1 2l010", 3);
    faultIs("w1l 010", 3);
    faultIs("w1l0 10", 4);
    faultIs("w1l01 0", 5);
    for (int other : new int[] {9, 10, 0, 31, 33, 160}) {
      for (int place : new int[] {0, 3, 8}) {
        WashSails x = withText(" w1 l010 ");
        x.put(1, place, other);
        due(x.fault(1), place);
        due(x.town(1), STATE);
      }
    }
  }

  private static void winds() {
    says("First w (119) and the WIND of HOURS 0, 1, .. (1 to 8 figures 0 .. 5, as many as stand together;");
    faultIs("l010", 0);
    faultIs("v1l010", 0);
    faultIs("x1l010", 0);
    faultIs("W1l010", 0);
    faultIs("ww1l010", 1);
    faultIs("wl010", 1);
    faultIs("w0l010", NONE);
    faultIs("w5l010", NONE);
    faultIs("w6l010", 1);
    faultIs("w/l010", 1);
    faultIs("w-l010", 1);
    faultIs("w50l010", NONE);
    faultIs("w56l010", 2);
    faultIs("w5/l010", 2);
    faultIs("w01234501l010", NONE);
    faultIs("w012345012l010", 9);
    faultIs("w12 3l010", 4);
    WashSails x = Checks.town("w54321012l010");
    int[] winds = {5, 4, 3, 2, 1, 0, 1, 2};
    for (int h = 0; h < 8; h++) due(x.wind(h), winds[h]);
    says("then again from the first on).");
    for (int h = 8; h < 24; h++) due(x.wind(h), winds[h % 8]);
    due(x.wind(999), 2);
    due(x.wind(992), 5);
    x = Checks.town("w4l010");
    for (int h = 0; h < 4; h++) due(x.wind(h), 4);
    x = Checks.town("w1230204l010");
    due(x.wind(6), 4);
    due(x.wind(7), 1);
    due(x.wind(999), 0);
    behindHours(x, 7);
    due(traitOf(x, 0, 6), 1);
    // A town of fewer winds behind one of more: none of the old ones is left.
    Checks.write(x, 0, "w35l010");
    x.town(0);
    for (int h = 0; h < 6; h++) due(x.wind(h), h % 2 == 0 ? 3 : 5);
  }

  private static void lines() {
    says("Then LINES (1 to 6; 0, 1, .. as they come):");
    faultIs("w1", 2);
    due(withText("w1l010").town(1), 1);
    due(withText("w1l010l010l010l010l010l010").town(1), 6);
    faultIs("w1l010l010l010l010l010l010l010", 26);
    WashSails x = Checks.town("w1p010 o010k010 b010s010l010");
    int[] kinds = {5, 4, 3, 2, 1, 0};
    for (int i = 0; i < 6; i++) due(traitOf(x, i, 0), kinds[i]);
    says("a letter, the PLACE and 4 together (0 .. 8, one figure: so PLACES are -4 .. 4, from the left to the right),");
    for (int place = -4; place <= 4; place++) {
      WashSails y = Checks.town("w1l" + (place + 4) + "10");
      due(traitOf(y, 0, 1), place);
    }
    faultIs("w1l910", 3);
    faultIs("w1l/10", 3);
    faultIs("w1l-10", 3);
    faultIs("w1l0010", 4);
    says("the AREA (1 .. 9),");
    for (int area = 1; area <= 9; area++) due(traitOf(Checks.town("w1l4" + area + "0"), 0, 2), area);
    faultIs("w1l400", 4);
    faultIs("w1l4:0", 4);
    faultIs("w1l4-1", 4);
    says("LINEN (0 .. 9), one figure each.");
    for (int linen = 0; linen <= 9; linen++) due(traitOf(Checks.town("w1l41" + linen), 0, 3), linen);
    faultIs("w1l41:", 5);
    faultIs("w1l41/", 5);
    faultIs("w1l4112", 6);
    faultIs("w1l410 2", 7);
  }

  private static void faults() {
    says("A FAULT is the first place at which it can't go on so (a letter, a figure that is none such, a ninth HOUR, a seventh LINE: its place;");
    faultIs("w1l910x", 3);
    faultIs("w1x910l900", 2);
    faultIs("w1l010z010", 6);
    faultIs("w1l010 z010", 7);
    faultIs("w1l010w1l010", 6);
    faultIs("w0123450123", 9);
    faultIs("w01234501 2l010", 10);
    faultIs("w1l010l010l010l010l010l010  l010", 28);
    faultIs("w1l010l010l010l010l010l010x", 26);
    faultIs("w1l010l010l010l010l010l010" + " ".repeat(34), NONE);
    faultIs("w1l010l010l010l010l010l010" + " ".repeat(33) + "l", 59);
    everyLetter();
    says("the TEXT's size, if its end comes too early, or there are blanks alone).");
    String whole = "  w10 l010";
    int[] early = {0, 1, 2, 3, 4, 5, 6, 7, 8, 9};
    for (int size : early) faultIs(whole.substring(0, size), size);
    faultIs(whole, NONE);
    faultIs(whole + "s", 11);
    faultIs(whole + "s4", 12);
    faultIs(whole + "s42", 13);
    faultIs("w01234501", 9);
    faultIs("w1" + " ".repeat(58), 60);
    faultIs(" ".repeat(59) + "w", 60);
    faultIs("", 0);
    faultIs(" ", 1);
    faultIs(" ".repeat(60), 60);
  }

  /** Of all bytes only six are letters of lines. */
  private static void everyLetter() {
    for (int sign = -128; sign <= 127; sign++) {
      WashSails x = withText("w1l010");
      x.put(1, 2, sign);
      int want = "lsbkop".indexOf((char) sign) >= 0 ? NONE : 2;
      if (sign == 32) want = 3;
      if (sign >= 48 && sign <= 53) want = 6;
      due(x.fault(1), want);
    }
  }

  private static void kinds() {
    says("KINDS of LINES and letters: 0 LINE (l, 108), 1 SHEET (s, 115; a LINE), 2 BLANKET (b, 98; a LINE), 3 BLACK (k, 107; a LINE),"
        + " 4 BOLSTER (o, 111; a SHEET), 5 PENNANT (p, 112; a BOLSTER).");
    int[] letters = {108, 115, 98, 107, 111, 112};
    // The kinds, as bits, that a line of each kind is, beside LINE.
    int[] are = {0, 1 << 1, 1 << 2, 1 << 3, 1 << 1 | 1 << 4, 1 << 1 | 1 << 4 | 1 << 5};
    for (int kind = 0; kind <= 5; kind++) {
      WashSails x = withText("w1l410");
      x.put(1, 2, letters[kind]);
      x.town(1);
      due(traitOf(x, 0, 0), kind);
      for (int above = 1; above <= 5; above++) {
        boolean is = (are[kind] >> above & 1) == 1;
        due(x.mark(0, above) == FINDING ? 0 : 1, is ? 1 : 0);
      }
      due(x.count(5), are[kind] >> 1 & 1);
      due(x.count(6), are[kind] >> 4 & 1);
    }
  }

  /** The pull of a line in each wind 0 to 5, by line(), and in a wind of 6 by areas(), kinds(). */
  private static void pullsOf(int kind, int area, int... want) {
    WashSails x = Checks.town("w012345" + "lsbkop".charAt(kind) + "4" + area + "0");
    for (int wind = 0; wind <= 5; wind++) {
      due(traitOf(x, 0, 6), want[wind]);
      x.hour();
    }
    withRow(x, 0, 6, want[6]);
    due(x.kinds(0, 0) >> kind & 1, 1);
    due(x.areas(0, 0) >> area & 1, 1);
    withRow(x, 0, 6, want[6] + 1);
    due(x.areas(0, 0) >> area & 1, 0);
    withRow(x, 0, 6, want[6] - 1);
    due(x.areas(0, 0) >> area & 1, 0);
  }

  private static void pulls() {
    says("The PULL of a LINE that is hung out, in a WIND: AREA times the WIND;");
    pullsOf(0, 1, 0, 1, 2, 3, 4, 5, 6);
    pullsOf(0, 9, 0, 9, 18, 27, 36, 45, 54);
    says("of a SHEET (BOLSTER, PENNANT, too) that, and the WIND more;");
    pullsOf(1, 1, 0, 2, 4, 6, 8, 10, 12);
    pullsOf(1, 9, 0, 10, 20, 30, 40, 50, 60);
    says("of a BOLSTER twice what a SHEET has;");
    pullsOf(4, 1, 0, 4, 8, 12, 16, 20, 24);
    pullsOf(4, 9, 0, 20, 40, 60, 80, 100, 120);
    says("of a PENNANT a third of what a BOLSTER has (cut);");
    pullsOf(5, 1, 0, 1, 2, 4, 5, 6, 8);
    pullsOf(5, 9, 0, 6, 13, 20, 26, 33, 40);
    pullsOf(5, 3, 0, 2, 5, 8, 10, 13, 16);
    says("of a BLANKET AREA times the WIND, if that is 3 or more, else 0;");
    pullsOf(2, 1, 0, 0, 0, 3, 4, 5, 6);
    pullsOf(2, 9, 0, 0, 0, 27, 36, 45, 54);
    says("of a BLACK one less than nothing: AREA times the WIND below 0.");
    pullsOf(3, 1, 0, -1, -2, -3, -4, -5, -6);
    pullsOf(3, 9, 0, -9, -18, -27, -36, -45, -54);
  }

  private static void atFirst() {
    says("HOUR 0 is at first, MILES 0, TURN 0, no LINE is hung out, all are dry (WET 0).");
    WashSails x = Checks.town("w5l890l890");
    counts(x, 2, 0, 0, 0, 0);
    isAt(x, 0, 0);
    for (int i = 0; i < 2; i++) {
      due(traitOf(x, i, 4), 0);
      due(traitOf(x, i, 5), 0);
    }
    due(x.wet(), 0);
    isAt(fresh(), 0, 0);
  }

  /** What one hour goes with all lines of a town hung out. */
  private static int milesOf(String town) {
    WashSails x = Checks.town(town);
    for (int i = 0; i < x.count(0); i++) x.hang(i);
    x.hour();
    return x.miles();
  }

  private static void milesAndTurn() {
    says("In an HOUR the raft goes as many MILES on as all PULLS together are by 4 (cut towards 0; MILES may be below 0);");
    int[] ahead = {0, 0, 0, 1, 1, 1, 1, 2, 2};
    for (int area = 1; area <= 9; area++) {
      due(milesOf("w1l4" + area + "0"), ahead[area - 1]);
      due(milesOf("w1k4" + area + "0"), -ahead[area - 1]);
    }
    due(milesOf("w1l430l410"), 1);
    due(milesOf("w1l430l430l430"), 2);
    due(milesOf("w1l490k450"), 1);
    due(milesOf("w1l440k490"), -1);
    due(milesOf("w1l410k440"), 0);
    // The dearest: six bolsters of area 9 in a wind of 5, or as many black ones.
    due(milesOf("w5o490o490o490o490o490o490"), 150);
    due(milesOf("w5k490k490k490k490k490k490"), -67);
    WashSails x = Checks.town("w1l470");
    x.hang(0);
    // Each hour is cut by itself: 7 and 7 by 4 are 1 and 1.
    behindHours(x, 2);
    due(x.miles(), 2);
    says("TURN is as much more as all PULLS times their PLACES together.");
    WashSails y = six();
    for (int i = 0; i < 6; i++) y.hang(i);
    y.hour();
    // 6 by -4, 10 by 1, 0 by 0, -4 by 2, 16 by -2, 10 by 4.
    isAt(y, 9, -24 + 10 - 8 - 32 + 40);
    y.hour();
    // 9 by -4, 15 by 1, 15 by 0, -6 by 2, 24 by -2, 16 by 4.
    isAt(y, 9 + 18, -14 - 36 + 15 - 12 - 48 + 64);
    WashSails z = Checks.town("w5o890o890o890o890o890o890");
    for (int i = 0; i < 6; i++) z.hang(i);
    // No pull is cut here, unlike miles; 34 hours are the most that 40 deeds leave.
    behindHours(z, 34);
    isAt(z, 34 * 150, 34 * 2400);
    WashSails none = Checks.town("w3l410k410");
    none.hang(0);
    none.hang(1);
    behindHours(none, 3);
    isAt(none, 0, 0);
  }

  /** How wet all lines of a town are, hung out from the first hour on, behind each hour. */
  private static void wetBehindHours(String town, int... want) {
    WashSails x = Checks.town(town);
    int lines = x.count(0);
    for (int i = 0; i < lines; i++) x.hang(i);
    for (int h = 0; h < want.length; h++) {
      x.hour();
      for (int i = 0; i < lines; i++) due(traitOf(x, i, 5), want[h]);
    }
  }

  private static void wetness() {
    says("Each LINE that is hung out is WET 1 less (if it is WET), if there is WIND;");
    wetBehindHours("w011111l010k010", 2, 1, 0, 0, 0, 0, 2, 1);
    wetBehindHours("w051l010b010", 2, 1, 0, 2, 1, 0);
    says("in an HOUR without WIND it rains: WET 2 more (9 at most);");
    wetBehindHours("w0000001l010", 2, 4, 6, 8, 9, 9, 8, 9, 9);
    wetBehindHours("w0001000l010", 2, 4, 6, 5, 7, 9, 9);
    says("who is not hung out stays as it is.");
    WashSails x = Checks.town("w01l010l010");
    x.hang(0);
    x.hour();
    x.take(0);
    behindHours(x, 4);
    due(traitOf(x, 0, 5), 2);
    due(traitOf(x, 1, 5), 0);
  }

  private static void deeds() {
    says("What is done: a LINE is hung out, taken in; an HOUR passes.");
    WashSails x = Checks.town("w1l010");
    due(x.count(2), 0);
    x.hang(0);
    due(x.count(2), 1);
    x.hour();
    due(x.count(2), 2);
    x.take(0);
    due(x.count(2), 3);
    x.goes(1);
    x.rival(2);
    x.far(3, 9, 0);
    x.keep(0);
    x.hang(1);
    due(x.count(2), 3);
    says("These are DEEDS 0, 1, .. (40 at most).");
    due(x.undo(1), 2);
    due(x.count(1), 0);
    due(x.count(3), 1);
    WashSails full = behindHours(Checks.town("w1l010"), 40);
    due(full.count(2), 40);
    due(full.count(1), 40);
    due(full.hour(), FULL);
    due(full.hang(0), FULL);
    due(full.count(2), 40);
    due(full.undo(39), 1);
    due(full.hang(0), 1);
    due(full.count(2), 40);
  }

  private static void plans() {
    says("A PLAN is a row of sets of LINES hung out, one for each HOUR from this one on (0 to 6);");
    WashSails x = Checks.town("w12345l440");
    tells(withRow(x, 0), x.sail(0), 0, 0);
    tells(withRow(x, 0, 1, 1, 1, 1, 1, 1), x.sail(0), 1 + 2 + 3 + 4 + 5 + 1, 0);
    due(withRow(x, 0, 1, 1, 1, 1, 1, 1, 1).sail(0), FINDING);
    x.hour();
    tells(withRow(x, 0, 1, 0, 1), x.sail(0), 2 + 4, 0);
    // What is hung out now has no part in it.
    x.hang(0);
    tells(withRow(x, 0, 0, 0), x.sail(0), 0, 0);
    says("such go by their first sets, then second ones, .., lesser numbers ahead.");
    // Turned by 4 for each hour with the line, and by no more than 8: out of three hours two, the later ones first.
    x = Checks.town("w1l540");
    asks(x, x.far(3, 8, 0), 2);
    rowIs(x, 0, 0, 1, 1);
    asks(x, x.far(3, 4, 0), 1);
    rowIs(x, 0, 0, 0, 1);
    // Either line goes as far; the lesser number is ahead.
    x = Checks.town("w1l540l340");
    asks(x, x.far(2, 0, 0), 4);
    rowIs(x, 0, 3, 3);
    x = Checks.town("w1l540l540");
    asks(x, x.far(2, 4, 0), 1);
    rowIs(x, 0, 0, 1);
    x = Checks.town("w0l540l540");
    asks(x, x.far(3, 999, 0), 0);
    rowIs(x, 0, 0, 0, 0);
  }

  private static void gusts() {
    says("By GUSTS: in each HOUR by p of 12 the WIND is 1 more.");
    WashSails x = Checks.town("w25b440");
    // A blanket of area 4: 0 or 3 miles, then 5 or 6.
    withRow(x, 0, 1, 1);
    shares(x, x.mid(0, 0), 5, 1);
    shares(x, x.mid(0, 12), 9, 1);
    shares(x, x.mid(0, 1), 16, 3);
    shares(x, x.odds(0, 9, 1), 1, 144);
    shares(x, x.odds(0, 8, 1), 1, 12);
    shares(x, x.odds(0, 6, 1), 23, 144);
    shares(x, x.odds(0, 5, 1), 1, 1);
    x = Checks.town("w0l440");
    // A wind of 1 where there is none by itself.
    withRow(x, 0, 1);
    shares(x, x.mid(0, 3), 1, 4);
    due(x.miles(), 0);
  }

  private static void lots() {
    says("LOTS: a number comes from the one ahead by 48271 times it modulo 2147483647, the first from a seed (1 .. 2147483646).");
    // Of seed 1: 48271, 182605794, 1291394886, 1914720637, 2078669041, 407355683, modulo 6 in turn:
    int[] lines = {1, 0, 0, 1, 1, 5};
    WashSails x = six();
    due(x.lots(6, 1), 1);
    lotsWere(x, lines);
    // Of the greatest seed: 2147435376, 1964877853, 856088761, 232763010, 68814606, 1740127964.
    int[] others = {0, 1, 1, 0, 0, 2};
    x = six();
    due(x.lots(6, 2147483646), 1);
    lotsWere(x, others);
    bad(Edges::six, y -> y.lots(1, 0));
    bad(Edges::six, y -> y.lots(1, 2147483647));
  }

  /** Looks at each line that was hung out or taken in, from the last one back. */
  private static void lotsWere(WashSails x, int[] lines) {
    for (int n = lines.length - 1; n >= 0; n--) {
      int then = hung(x);
      due(x.undo(2 * n), 2);
      due(then ^ hung(x), 1 << lines[n]);
    }
  }

  private static int hung(WashSails x) {
    int set = 0;
    for (int i = 0; i < x.count(0); i++) set |= traitOf(x, i, 4) << i;
    return set;
  }
}
