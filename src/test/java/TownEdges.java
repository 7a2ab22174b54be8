/** The boundary cases of promises 10 to 20: towns, their lines, deeds. */
final class TownEdges extends Edges {
  static void run() {
    fault();
    town();
    line();
    mark();
    wind();
    hang();
    take();
    hour();
    undo();
    keep();
    on();
  }

  private static void fault() {
    says(10, "A FAULT of a TEXT;");
    due(withText("").fault(1), 0);
    due(withText("w1l010x").fault(1), 6);
    due(withText(" ".repeat(60)).fault(1), 60);
    WashSails x = withText("w1l010");
    Checks.write(x, 3, "w7");
    due(x.fault(3), 1);
    due(x.fault(1), NONE);
    says(10, "NONE: there is none.");
    due(withText("w1l010").fault(1), NONE);
    due(withText("w01234501 l010l010l010l010l010l010").fault(1), NONE);
    due(withText(SIX).fault(1), NONE);
    // Nothing is read into the town, nor told.
    due(x.count(0), 0);
    due(x.wind(0), STATE);
    WashSails town = six();
    Checks.write(town, 1, "w1l010");
    long before = town.digest();
    due(town.fault(1), NONE);
    due(town.digest(), before);
    due(town.wind(3), 5);
    says(10, "BAD; NOTHING.");
    for (int t : new int[] {-1, 4, LEAST, MOST}) bad(() -> withText("w1l010"), y -> y.fault(t));
    found(() -> withText("w1l010"), NOTHING, y -> y.fault(0));
    found(() -> withText("w1l010"), NOTHING, y -> y.fault(3));
  }

  /** A town of six lines behind deeds, kept in all places. */
  private static WashSails old() {
    WashSails x = Checks.town("w03l890l010l010l010l010o850");
    x.hang(5);
    x.hang(0);
    x.keep(0);
    behindHours(x, 3);
    x.keep(1);
    x.keep(2);
    return x;
  }

  private static void town() {
    says(11, "A TOWN by a TEXT (anew: HOUR 0, no DEEDS; kept TOWNS go): how many LINES.");
    WashSails x = old();
    counts(x, 6, 3, 5, 2, 6, 1, 1, 0, 1, 3);
    Checks.write(x, 2, "w4 p410k299");
    due(x.town(2), 2);
    counts(x, 2, 0, 0, 0, 0, 1, 1, 0, 2, 0);
    isAt(x, 0, 0);
    due(x.wet(), 0);
    due(x.wind(1), 4);
    due(x.undo(0), 0);
    for (int k = 0; k <= 2; k++) {
      due(x.on(k), FINDING);
      due(x.finding(), NOTHING);
    }
    due(x.line(2, 0), BAD);
    due(x.hang(2), BAD);
    due(x.goes(4), BAD);
    int[][] traits = {{5, 0, 1, 0, 0, 0, 5}, {3, -2, 9, 9, 0, 0, -36}};
    for (int i = 0; i < 2; i++) {
      for (int what = 0; what <= 6; what++) due(traitOf(x, i, what), traits[i][what]);
    }
    lessThanBefore();
    // By the same text, too.
    x = old();
    due(x.town(0), 6);
    counts(x, 6, 0, 0, 0, 0, 1, 1, 0, 1, 0);
    isAt(x, 0, 0);
    due(x.hang(5), 1);
    // What becomes of the text later is not the town's.
    x.text(0, 0);
    due(x.hour(), 1);
    due(x.count(0), 6);
    due(x.wind(1), 3);
    says(11, "BAD; NOTHING; STATE: a FAULT.");
    for (int t : new int[] {-1, 4, LEAST, MOST}) bad(TownEdges::old, y -> y.town(t));
    found(TownEdges::old, NOTHING, y -> y.town(1));
    for (String text : new String[] {"", "   ", "w1", "w1l01", "w6l010", "w1l010l010l010l010l010l010l010", "w012345012l010"}) {
      refused(() -> {
        WashSails y = old();
        Checks.write(y, 1, text);
        return y;
      }, STATE, y -> y.town(1));
      due(withText(text).town(1), STATE);
    }
    // A text with a fault has been read half: the old winds and lines still stand.
    WashSails half = old();
    Checks.write(half, 1, "w5l111s222x");
    due(half.town(1), STATE);
    due(half.wind(1), 3);
    due(traitOf(half, 0, 2), 9);
    says(11, "(STATE behind NOTHING.)");
    found(Edges::fresh, NOTHING, y -> y.town(0));
    found(() -> withText("w"), NOTHING, y -> y.town(0));
  }

  /** What was reckoned of a greater town has no part in a lesser one's answers. */
  private static void lessThanBefore() {
    WashSails x = Checks.town("w5o890o890o890o090o090k090");
    x.fast(99);
    x.even(0);
    x.far(3, 999, 0);
    x.far(3, 0, 0);
    x.rival(2);
    Checks.write(x, 0, "w1l440l450");
    due(x.town(0), 2);
    due(x.fast(99), 2);
    due(x.asked(), 3);
    tells(x, x.even(2), 3, 1);
    tells(x, x.ways(1, 0), 0, 2);
    tells(x, x.even(0), 0, 1);
    asks(x, x.far(3, 999, 0), 6);
    rowIs(x, 0, 3, 3, 3);
    due(x.soon(4), 2);
    due(x.least(3, 6), 0);
    asks(x, x.rival(1), 0);
  }

  private static void line() {
    says(12, "Of a LINE: 0 the KIND, 1 the PLACE, 2 the AREA, 3 LINEN, 4 whether it is hung out (1, 0), 5 WET,"
        + " 6 the PULL that it has, or would have, in this HOUR's WIND, told by asked(): 1.");
    WashSails x = Checks.town("w05p819b099");
    x.hang(1);
    x.hour();
    int[][] traits = {{5, 4, 1, 9, 0, 0, 6}, {2, -4, 9, 9, 1, 2, 45}};
    for (int i = 0; i < 2; i++) {
      for (int what = 0; what <= 6; what++) asks(x, x.line(i, what), traits[i][what]);
    }
    x.hour();
    asks(x, x.line(1, 5), 1);
    asks(x, x.line(1, 6), 0);
    x.take(1);
    asks(x, x.line(1, 4), 0);
    says(12, "BAD.");
    for (int i : new int[] {-1, 6, LEAST, MOST}) bad(Edges::six, y -> y.line(i, 0));
    for (int what : new int[] {-1, 7, LEAST, MOST}) bad(Edges::six, y -> y.line(0, what));
    for (int i : new int[] {1, 2, 5}) bad(() -> Checks.town("w1l010"), y -> y.line(i, 0));
    bad(Edges::fresh, y -> y.line(0, 0));
  }

  private static void mark() {
    says(13, "What a LINE that IS of a KIND tells: a SHEET (BOLSTER, PENNANT, too) its PULL in a WIND of 5,");
    WashSails x = Checks.town("w0s410s490o410o490p410p490");
    int[] pulls = {10, 50, 20, 100, 6, 33};
    for (int i = 0; i < 6; i++) due(x.mark(i, 1), pulls[i]);
    says(13, "a BLANKET in how many HOURS from this one on (0 .. 7) there is a WIND of 3 or more (NONE: in none),");
    due(Checks.town("w3b010").mark(0, 2), 0);
    due(Checks.town("w2b010").mark(0, 2), NONE);
    due(Checks.town("w22222220b010").mark(0, 2), NONE);
    due(Checks.town("w22222223b010").mark(0, 2), 7);
    due(Checks.town("w25b010").mark(0, 2), 1);
    WashSails later = Checks.town("w30000000b010");
    for (int in = 0; in <= 8; in++) {
      due(later.mark(0, 2), (8 - in) % 8);
      later.hour();
    }
    says(13, "a BLACK one how many other LINES are hung out,");
    x = six();
    due(x.mark(3, 3), 0);
    x.hang(3);
    due(x.mark(3, 3), 0);
    for (int i : new int[] {0, 1, 2, 4, 5}) x.hang(i);
    due(x.mark(3, 3), 5);
    x.take(3);
    due(x.mark(3, 3), 5);
    x.take(5);
    due(x.mark(3, 3), 4);
    says(13, "a BOLSTER (PENNANT, too) how many other LINES have no more AREA than it,");
    due(Checks.town("w0o410").mark(0, 4), 0);
    due(Checks.town("w0o410l410").mark(0, 4), 1);
    due(Checks.town("w0o410l420").mark(0, 4), 0);
    due(Checks.town("w0l490o480p480k470p490").mark(1, 4), 2);
    due(Checks.town("w0l490o480p480k470p490").mark(2, 4), 2);
    due(Checks.town("w0l490o480p480k470p490").mark(4, 4), 4);
    due(Checks.town("w0p490l490l490l490l490l490").mark(0, 4), 5);
    says(13, "a PENNANT how much more PULL a BOLSTER of its AREA would have in this HOUR's WIND.");
    x = Checks.town("w052p490p410");
    due(x.mark(0, 5), 0);
    x.hour();
    due(x.mark(0, 5), 100 - 33);
    due(x.mark(1, 5), 20 - 6);
    x.hour();
    due(x.mark(0, 5), 40 - 13);
    due(x.mark(1, 5), 8 - 2);
    due(x.asked(), 0);
    x.hour();
    due(x.asked(), 0);
    says(13, "BAD: also KIND 0;");
    for (int kind : new int[] {0, -1, 6, LEAST, MOST}) bad(Edges::six, y -> y.mark(1, kind));
    for (int i : new int[] {-1, 6, LEAST, MOST}) bad(Edges::six, y -> y.mark(i, 1));
    bad(() -> Checks.town("w1s010"), y -> y.mark(1, 1));
    bad(Edges::fresh, y -> y.mark(0, 1));
    says(13, "UNLIKE.");
    for (int kind = 1; kind <= 5; kind++) {
      int other = kind;
      found(Edges::six, UNLIKE, y -> y.mark(0, other));
    }
    found(Edges::six, UNLIKE, y -> y.mark(1, 4));
    found(Edges::six, UNLIKE, y -> y.mark(4, 5));
    found(Edges::six, UNLIKE, y -> y.mark(2, 1));
    found(Edges::six, UNLIKE, y -> y.mark(3, 2));
    found(Edges::six, UNLIKE, y -> y.mark(5, 3));
  }

  private static void wind() {
    says(14, "The WIND of an HOUR (0 .. 999).");
    WashSails x = six();
    due(x.wind(0), 2);
    due(x.wind(1), 3);
    due(x.wind(2), 0);
    due(x.wind(3), 5);
    due(x.wind(4), 2);
    due(x.wind(998), 0);
    due(x.wind(999), 5);
    // An hour's own number, not one from now on.
    behindHours(x, 2);
    due(x.wind(0), 2);
    due(x.asked(), 0);
    says(14, "BAD;");
    for (int hour : new int[] {-1, 1000, LEAST, MOST}) {
      bad(Edges::six, y -> y.wind(hour));
      bad(Edges::fresh, y -> y.wind(hour));
    }
    says(14, "STATE: no LINES.");
    refused(Edges::fresh, STATE, y -> y.wind(0));
    refused(Edges::fresh, STATE, y -> y.wind(999));
    refused(() -> withText("w1l010"), STATE, y -> y.wind(0));
  }

  private static void hang() {
    says(15, "A LINE is hung out: how many are.");
    WashSails x = six();
    int[] lines = {5, 0, 3, 1, 4, 2};
    for (int n = 0; n < 6; n++) {
      due(x.hang(lines[n]), n + 1);
      due(traitOf(x, lines[n], 4), 1);
      due(x.count(2), n + 1);
    }
    x.take(3);
    due(x.hang(3), 6);
    says(15, "BAD;");
    for (int i : new int[] {-1, 6, LEAST, MOST}) bad(Edges::six, y -> y.hang(i));
    for (int i : new int[] {1, 5, 32}) bad(() -> Checks.town("w1l010"), y -> y.hang(i));
    for (int i : new int[] {-32, 32, 64}) bad(() -> withDeeds("w1l010", 1), y -> y.hang(i));
    bad(Edges::fresh, y -> y.hang(0));
    says(15, "STATE: it is;");
    refused(() -> withDeeds(SIX, 1), STATE, y -> y.hang(0));
    says(15, "FULL: 40 DEEDS.");
    x = withDeeds("w1l010l010", 38);
    due(x.hang(1), 1);
    due(x.hang(0), 2);
    due(x.count(2), 40);
    refused(() -> withDeeds("w1l010l010", 40), FULL, y -> y.hang(0));
    refused(() -> withDeeds("w1l010l010", 40), FULL, y -> y.hang(1));
    says(15, "(FULL last.)");
    refused(() -> fullAndHung(), STATE, y -> y.hang(1));
    bad(() -> withDeeds("w1l010l010", 40), y -> y.hang(2));
  }

  /** 40 deeds; line 0 is taken in, line 1 hung out. */
  private static WashSails fullAndHung() {
    WashSails x = withDeeds("w1l010l010", 38);
    x.hang(1);
    x.hour();
    return x;
  }

  private static void take() {
    says(16, "A LINE is taken in: how WET it is.");
    WashSails x = Checks.town("w00000003l010l010");
    x.hang(0);
    due(x.take(0), 0);
    due(traitOf(x, 0, 4), 0);
    due(x.count(2), 2);
    x.hang(1);
    int[] wet = {2, 4, 6, 8, 9, 9, 9, 8};
    for (int h = 0; h < 8; h++) {
      x.hour();
      due(x.take(1), wet[h]);
      due(x.count(3), 0);
      x.hang(1);
    }
    says(16, "BAD;");
    for (int i : new int[] {-1, 6, LEAST, MOST}) bad(() -> withDeeds(SIX, 1), y -> y.take(i));
    for (int i : new int[] {1, 5, 32, -32}) bad(() -> withDeeds("w1l010", 1), y -> y.take(i));
    bad(Edges::fresh, y -> y.take(0));
    says(16, "STATE: it is not hung out;");
    refused(Edges::six, STATE, y -> y.take(0));
    refused(() -> withDeeds(SIX, 1), STATE, y -> y.take(1));
    refused(() -> withDeeds(SIX, 2), STATE, y -> y.take(0));
    says(16, "FULL.");
    due(withDeeds("w1l010", 39).take(0), 0);
    refused(() -> fullAndHung(), FULL, y -> y.take(1));
    says(16, "(FULL last.)");
    refused(() -> fullAndHung(), STATE, y -> y.take(0));
    bad(() -> fullAndHung(), y -> y.take(2));
  }

  private static void hour() {
    says(17, "An HOUR passes: MILES then, told by asked(); TURN then by upper() (lower() is 1; below 0, too): 1.");
    WashSails x = Checks.town("w5k890l090");
    withRow(x, 0, 1);
    x.hang(0);
    x.mid(0, 1);
    due(x.lower(), 6);
    tells(x, x.hour(), -11, -180);
    tells(x, x.hour(), -22, -360);
    due(x.count(1), 2);
    x.hang(1);
    x.take(0);
    tells(x, x.hour(), -11, -540);
    WashSails none = Checks.town("w5l890");
    tells(none, none.hour(), 0, 0);
    says(17, "STATE: no LINES;");
    refused(Edges::fresh, STATE, y -> y.hour());
    says(17, "FULL.");
    WashSails last = withDeeds("w4l490", 39);
    tells(last, last.hour(), 9, 0);
    due(last.count(2), 40);
    refused(() -> withDeeds("w1l010", 40), FULL, y -> y.hour());
    refused(() -> fullAndHung(), FULL, y -> y.hour());
    says(17, "(FULL last.)");
    refused(() -> withText("w1l010"), STATE, y -> y.hour());
  }

  /** Lines that go out or in; 6 is an hour. */
  private static final int[] DEEDS = {0, 6, 1, 6, 6, 0, 6, 1};

  private static WashSails behindDeeds(int n) {
    WashSails x = Checks.town("w05l890o010");
    for (int d = 0; d < n; d++) {
      if (DEEDS[d] == 6) x.hour();
      else if (x.hang(DEEDS[d]) == STATE) x.take(DEEDS[d]);
    }
    return x;
  }

  private static void undo() {
    says(18, "DEEDS from number n on are undone: how many.");
    for (int n = 0; n <= DEEDS.length; n++) {
      WashSails x = behindDeeds(DEEDS.length);
      due(x.undo(n), DEEDS.length - n);
      due(x.count(2), n);
      due(x.digest(), behindDeeds(n).digest());
    }
    due(six().undo(0), 0);
    due(fresh().undo(0), 0);
    WashSails full = withDeeds("w1l010", 40);
    due(full.undo(40), 0);
    due(full.undo(0), 40);
    due(full.undo(0), 0);
    says(18, "BAD.");
    for (int n : new int[] {-1, 3, 40, 41, LEAST, MOST}) bad(() -> withDeeds(SIX, 2), y -> y.undo(n));
    bad(() -> withDeeds(SIX, 40), y -> y.undo(41));
    bad(Edges::six, y -> y.undo(1));
    bad(Edges::fresh, y -> y.undo(1));
    bad(Edges::fresh, y -> y.undo(-1));
  }

  private static void keep() {
    says(19, "The TOWN (as it is, DEEDS) is kept in a place (0 .. 2): how many DEEDS.");
    WashSails x = Checks.town("w05l890");
    due(x.keep(0), 0);
    x.hang(0);
    due(x.keep(1), 1);
    behindHours(x, 39);
    due(x.keep(2), 40);
    due(x.count(9), 3);
    due(x.count(2), 40);
    due(x.on(1), 1);
    due(x.on(0), 0);
    due(x.on(2), 40);
    due(x.miles(), 19 * 11);
    x.undo(3);
    // The same place again: what it kept is gone.
    due(x.keep(2), 3);
    due(x.count(9), 3);
    due(x.undo(0), 3);
    due(x.on(2), 3);
    due(x.count(1), 2);
    isAt(x, 11, 180);
    says(19, "BAD;");
    for (int k : new int[] {-1, 3, LEAST, MOST}) {
      bad(Edges::six, y -> y.keep(k));
      bad(Edges::fresh, y -> y.keep(k));
    }
    says(19, "STATE: no LINES.");
    for (int k = 0; k <= 2; k++) {
      int place = k;
      refused(Edges::fresh, STATE, y -> y.keep(place));
    }
  }

  private static void on() {
    says(20, "The TOWN is as it was kept: how many DEEDS.");
    WashSails x = Checks.town("w053l890o010");
    x.hang(0);
    behindHours(x, 2);
    x.hang(1);
    due(x.keep(1), 4);
    long then = x.digest();
    behindHours(x, 5);
    x.take(0);
    due(x.on(1), 4);
    due(x.digest(), then);
    due(x.undo(0), 4);
    due(x.on(1), 4);
    due(x.digest(), then);
    // Gone on from: what is done later is not in the kept town.
    due(x.take(0), 1);
    due(x.on(1), 4);
    due(x.digest(), then);
    due(x.undo(2), 2);
    counts(x, 2, 1, 2, 1, 2);
    // Other deeds in the places of those that were kept.
    x.undo(0);
    x.hang(1);
    behindHours(x, 4);
    due(x.on(1), 4);
    due(x.digest(), then);
    due(x.undo(1), 3);
    due(traitOf(x, 0, 4), 1);
    due(traitOf(x, 1, 4), 0);
    WashSails full = withDeeds("w1l010", 40);
    full.keep(0);
    full.undo(0);
    due(full.on(0), 40);
    due(full.hour(), FULL);
    says(20, "BAD; NOTHING.");
    for (int k : new int[] {-1, 3, LEAST, MOST}) bad(Edges::six, y -> y.on(k));
    for (int k = 0; k <= 2; k++) {
      int place = k;
      found(Edges::six, NOTHING, y -> y.on(place));
      found(Edges::fresh, NOTHING, y -> y.on(place));
    }
    found(() -> {
      WashSails y = six();
      y.keep(0);
      y.keep(2);
      return y;
    }, NOTHING, y -> y.on(1));
  }
}
