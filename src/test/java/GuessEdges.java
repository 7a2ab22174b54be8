import java.util.function.ToIntBiFunction;

/** The boundary cases of promises 31 to 36: kinds and areas by pulls, a rival, gusts, lots. */
final class GuessEdges extends Edges {
  static void run() {
    kinds();
    areas();
    rival();
    mid();
    odds();
    lots();
  }

  private static WashSails withPairs(int... pairs) { return withRow(six(), 0, pairs); }

  /** A row of so many pairs of no wind and no pull, the last of which is this one. */
  private static int[] pairsUpTo(int count, int wind, int pull) {
    int[] pairs = new int[2 * count];
    pairs[2 * count - 2] = wind;
    pairs[2 * count - 1] = pull;
    return pairs;
  }

  private static void pairsRefused(int part, String order, ToIntBiFunction<WashSails, Integer> byLine, ToIntBiFunction<WashSails, Integer> byRow) {
    says(part, order);
    for (int none : new int[] {-1, 6, LEAST, MOST}) {
      bad(() -> withPairs(), x -> byLine.applyAsInt(x, none));
      bad(() -> withPairs(), x -> byRow.applyAsInt(x, none));
      bad(Edges::six, x -> byLine.applyAsInt(x, none));
    }
    bad(() -> withRow(Checks.town("w1l010"), 0), x -> byLine.applyAsInt(x, 1));
    bad(() -> withRow(fresh(), 0), x -> byLine.applyAsInt(x, 0));
    for (int r = 0; r <= 5; r++) {
      int row = r;
      found(Edges::six, NOTHING, x -> byRow.applyAsInt(x, row));
    }
    for (int n : new int[] {1, 3, 19, 21, 22, 39, 40}) {
      found(() -> {
        WashSails x = six();
        x.row(0, n);
        return x;
      }, SIZE, x -> byRow.applyAsInt(x, 0));
    }
    for (int wind : new int[] {-1, 7, LEAST, MOST}) {
      found(() -> withPairs(wind, 0), UNLIKE, x -> byRow.applyAsInt(x, 0));
      found(() -> withPairs(pairsUpTo(10, wind, 0)), UNLIKE, x -> byRow.applyAsInt(x, 0));
      // Also where an earlier pair leaves none.
      found(() -> withPairs(0, 1, wind, 0), UNLIKE, x -> byRow.applyAsInt(x, 0));
    }
    says(part, "(In this order.)");
    bad(Edges::fresh, x -> byRow.applyAsInt(x, 0));
    bad(() -> withPairs(7), x -> byLine.applyAsInt(x, 6));
    found(() -> withPairs(7), SIZE, x -> byRow.applyAsInt(x, 0));
    found(() -> withPairs(7, 0, 7), SIZE, x -> byRow.applyAsInt(x, 0));
    found(() -> withPairs(pairsUpTo(11, 7, 0)), SIZE, x -> byRow.applyAsInt(x, 0));
  }

  private static void kindsAre(int i, int want, int... pairs) { due(withPairs(pairs).kinds(i, 0), want); }

  private static void kinds() {
    says(31, "Of which KINDS (bits) a LINE can be by PULLS in a ROW of pairs (0 to 10: a WIND 0 .. 6, what it PULLED).");
    kindsAre(2, 63);
    kindsAre(2, 63, 0, 0);
    kindsAre(2, 0, 0, 1);
    kindsAre(2, 0, 0, -1);
    // Of an area of 5 in winds of 2, 3 and 6.
    kindsAre(2, 1, 2, 10);
    kindsAre(2, 4, 2, 0);
    kindsAre(2, 5, 3, 15);
    kindsAre(2, 2, 3, 18);
    kindsAre(2, 8, 3, -15);
    kindsAre(2, 16, 3, 36);
    kindsAre(2, 32, 3, 12);
    kindsAre(2, 5, 6, 30);
    kindsAre(2, 2, 6, 36);
    kindsAre(2, 8, 6, -30);
    kindsAre(2, 16, 6, 72);
    kindsAre(2, 32, 6, 24);
    kindsAre(2, 0, 6, LEAST);
    kindsAre(2, 0, 6, MOST);
    // The line's own area, whatever its kind; of an area of 2 a line and a pennant pull alike, but for a blanket in a storm.
    kindsAre(3, 33, 1, 2);
    kindsAre(3, 33 + 4, 6, 12);
    kindsAre(3, 33, 6, 12, 1, 2);
    kindsAre(2, 0, 3, 15, 3, 18);
    kindsAre(2, 2, pairsUpTo(10, 3, 18));
    kindsAre(2, 0, pairsUpTo(10, 0, 18));
    pairsRefused(31, "BAD; NOTHING; SIZE: not by pairs, too many; UNLIKE: no such WIND.", (x, i) -> x.kinds(i, 0), (x, r) -> x.kinds(0, r));
  }

  private static void areasAre(int i, int want, int... pairs) { due(withPairs(pairs).areas(i, 0), want); }

  private static void areas() {
    says(32, "Which AREAS (bits 1 .. 9) it can have, so.");
    areasAre(0, 1022);
    areasAre(0, 1022, 0, 0);
    areasAre(0, 0, 0, 1);
    areasAre(0, 0, 1, 0);
    areasAre(0, 2, 1, 1);
    areasAre(0, 512, 1, 9);
    areasAre(0, 0, 1, 10);
    areasAre(0, 0, 2, 3);
    areasAre(0, 512, 6, 54);
    areasAre(1, 2, 1, 2);
    areasAre(1, 0, 1, 1);
    areasAre(1, 512, 6, 60);
    areasAre(2, 1022, 2, 0);
    areasAre(2, 2, 3, 3);
    areasAre(2, 0, 3, 0);
    areasAre(3, 2, 1, -1);
    areasAre(3, 512, 6, -54);
    areasAre(3, 0, 1, 1);
    areasAre(4, 2, 1, 4);
    areasAre(4, 512, 6, 120);
    // Cut: areas of 5 and 6, and of 8 and 9, pull alike in a wind of 1.
    areasAre(5, 32 + 64, 1, 4);
    areasAre(5, 256 + 512, 1, 6);
    areasAre(5, 512, 1, 6, 2, 13);
    areasAre(0, 8, pairsUpTo(10, 6, 18));
    areasAre(0, 0, 1, 3, 1, 4);
    pairsRefused(32, "BAD; NOTHING; SIZE; UNLIKE.", (x, i) -> x.areas(i, 0), (x, r) -> x.areas(0, r));
  }

  /** The miles of the game with a set hung out at first. */
  private static void rivalIs(String town, int set, int n, int want) {
    WashSails x = Checks.town(town);
    for (int i = 0; i < x.count(0); i++) if ((set >> i & 1) == 1) x.hang(i);
    long before = x.digest();
    asks(x, x.rival(n), want);
    due(x.digest(), before);
  }

  private static void rival() {
    says(33, "By turns the town hangs out a LINE that is not, or none, a rival takes in one that is, or none, n (0 .. 2) times each,"
        + " the town begins (from what is hung out now): MILES of this HOUR then, told by asked(): 1, the town wanting many, the rival few.");
    // Lines that go 1, 2 and 3 miles.
    String three = "w4l410l420l430";
    int[] asItIs = {0, 1, 2, 3, 3, 4, 5, 6};
    for (int set = 0; set < 8; set++) rivalIs(three, set, 0, asItIs[set]);
    for (int n = 1; n <= 2; n++) {
      rivalIs(three, 0, n, 0);
      rivalIs(three, 1, n, 1);
      rivalIs(three, 2, n, 2);
      rivalIs(three, 4, n, 2);
      rivalIs(three, 3, n, 3);
      rivalIs(three, 7, n, 3);
    }
    // Who would lose by it does nothing: the town hangs out no black one, the rival takes none in.
    for (int n = 0; n <= 2; n++) {
      rivalIs("w4k410k420", 0, n, 0);
      rivalIs("w4k410k420", 1, n, -1);
      rivalIs("w4k410k420", 3, n, -3);
      rivalIs("w0l490", 1, n, 0);
    }
    rivalIs("w4l410k420", 2, 1, -2);
    rivalIs("w4l410k420", 3, 2, -2);
    // Once each, and twice each: the second line is out behind the second turn alone.
    rivalIs("w4l430l430k460", 7, 1, -3);
    rivalIs("w1l430l430l430l430", 1, 1, 0);
    rivalIs("w1l430l430l430l430", 7, 1, 2);
    rivalIs("w4l410l410l410l410l410l410", 63, 1, 5);
    rivalIs("w4l410l410l410l410l410l410", 63, 2, 5);
    rivalIs("w4l410l410l410l410l410l410", 31, 2, 5);
    // This hour's wind; behind it the game is the same.
    WashSails x = Checks.town("w04l490l490");
    x.hang(0);
    x.hour();
    asks(x, x.rival(0), 9);
    asks(x, x.rival(1), 9);
    says(33, "BAD;");
    for (int n : new int[] {-1, 3, LEAST, MOST}) {
      bad(Edges::six, y -> y.rival(n));
      bad(Edges::fresh, y -> y.rival(n));
    }
    says(33, "STATE: no LINES.");
    for (int n = 0; n <= 2; n++) {
      int times = n;
      refused(Edges::fresh, STATE, y -> y.rival(times));
    }
  }

  private static void mid() {
    says(34, "The mean of MILES behind a PLAN, each HOUR's cut: 1; below 0, too.");
    WashSails x = Checks.town("w1l470k470");
    withRow(x, 0);
    shares(x, x.mid(0, 0), 0, 1);
    shares(x, x.mid(0, 12), 0, 1);
    withRow(x, 0, 1, 1);
    // 7 by 4, or 14 by 4, each hour.
    shares(x, x.mid(0, 0), 2, 1);
    shares(x, x.mid(0, 12), 6, 1);
    shares(x, x.mid(0, 6), 4, 1);
    shares(x, x.mid(0, 1), 7, 3);
    withRow(x, 0, 2, 2);
    shares(x, x.mid(0, 1), -7, 3);
    shares(x, x.mid(0, 12), -6, 1);
    withRow(x, 0, 1, 2);
    shares(x, x.mid(0, 5), 0, 1);
    withRow(x, 0, 1, 1, 1, 1, 1, 1);
    shares(x, x.mid(0, 5), 11, 1);
    withRow(x, 0, 1);
    shares(x, x.mid(0, 5), 11, 6);
    shares(x, x.mid(0, 11), 17, 6);
    // All miles, those of now, too; nothing is done.
    x.hang(1);
    behindHours(x, 3);
    shares(x, x.mid(0, 5), 11 - 18, 6);
    withRow(x, 0);
    shares(x, x.mid(0, 5), -3, 1);
    due(x.count(1), 3);
    for (int p : new int[] {-1, 13, LEAST, MOST}) {
      bad(Edges::six, y -> y.mid(0, p));
      bad(Edges::fresh, y -> y.mid(0, p));
      bad(() -> withRow(six(), 0, 0), y -> y.mid(0, p));
    }
    GoesEdges.plansRefused(34, "BAD; STATE; NOTHING; SIZE; UNLIKE.", (y, r) -> y.mid(r, 12));
  }

  private static void odds() {
    says(35, "Chances that MILES behind a PLAN are as told (-999 .. 999), or more: 1.");
    WashSails x = Checks.town("w1l470k470");
    withRow(x, 0);
    shares(x, x.odds(0, 0, 5), 1, 1);
    shares(x, x.odds(0, 1, 5), 0, 1);
    shares(x, x.odds(0, -999, 5), 1, 1);
    shares(x, x.odds(0, 999, 5), 0, 1);
    // Each hour 1 mile, or 3.
    withRow(x, 0, 1, 1, 1, 1, 1, 1);
    shares(x, x.odds(0, 6, 5), 1, 1);
    shares(x, x.odds(0, 18, 5), 15625, 2985984);
    shares(x, x.odds(0, 18, 7), 117649, 2985984);
    shares(x, x.odds(0, 19, 5), 0, 1);
    shares(x, x.odds(0, 7, 5), 2985984 - 117649, 2985984);
    shares(x, x.odds(0, 18, 12), 1, 1);
    shares(x, x.odds(0, 7, 0), 0, 1);
    withRow(x, 0, 1, 1);
    shares(x, x.odds(0, 4, 3), 7, 16);
    shares(x, x.odds(0, 3, 3), 7, 16);
    shares(x, x.odds(0, 5, 3), 1, 16);
    // Below 0: -1 or -3.
    withRow(x, 0, 2);
    shares(x, x.odds(0, -1, 1), 11, 12);
    shares(x, x.odds(0, -2, 1), 11, 12);
    shares(x, x.odds(0, -3, 1), 1, 1);
    shares(x, x.odds(0, 0, 1), 0, 1);
    x.hang(0);
    behindHours(x, 2);
    shares(x, x.odds(0, 1, 1), 11, 12);
    shares(x, x.odds(0, 2, 1), 0, 1);
    for (int p : new int[] {-1, 13, LEAST, MOST}) {
      bad(Edges::six, y -> y.odds(0, 0, p));
      bad(Edges::fresh, y -> y.odds(0, 0, p));
      bad(() -> withRow(six(), 0, 0), y -> y.odds(0, 0, p));
    }
    for (int miles : new int[] {-1000, 1000, LEAST, MOST}) {
      bad(Edges::six, y -> y.odds(0, miles, 0));
      bad(Edges::fresh, y -> y.odds(0, miles, 0));
      bad(() -> withRow(six(), 0, 0), y -> y.odds(0, miles, 0));
    }
    GoesEdges.plansRefused(35, "BAD; STATE; NOTHING; SIZE; UNLIKE.", (y, r) -> y.odds(r, 0, 12));
  }

  private static void lots() {
    says(36, "n (1 .. 20) HOURS truly by LOTS of a seed: ahead of each a number: the LINE that it is modulo how many there are is hung out,"
        + " if it was not, else taken in (a DEED): MILES then, told by asked(): 1.");
    // Numbers of seed 1 modulo 3: 1 0 0 1 1 2 (lines that go 1, 2 and 4 miles).
    WashSails x = Checks.town("w4l410l420l440");
    asks(x, x.lots(1, 1), 2);
    counts(x, 3, 1, 2, 1);
    due(traitOf(x, 1, 4), 1);
    x.undo(0);
    asks(x, x.lots(2, 1), 2 + 3);
    x.undo(0);
    asks(x, x.lots(6, 1), 2 + 3 + 2 + 0 + 2 + 6);
    counts(x, 3, 6, 12, 2);
    due(x.miles(), 15);
    due(x.undo(3), 9);
    counts(x, 3, 1, 3, 2);
    // From what is hung out and how far it has gone; the seed anew each time.
    x.undo(0);
    x.hang(1);
    x.hour();
    asks(x, x.lots(1, 1), 2 + 0);
    asks(x, x.lots(1, 1), 2 + 0 + 2);
    counts(x, 3, 3, 6, 1);
    // One line alone goes out and in by turns; the hours wet it.
    WashSails one = Checks.town("w01l440");
    asks(one, one.lots(20, 2147483646), 0);
    counts(one, 1, 20, 40, 0, 9);
    WashSails same = Checks.town("w01l440");
    same.lots(20, 1);
    due(same.digest(), one.digest());
    // Truly: as if done by hand.
    WashSails hand = Checks.town("w35l870k410o060");
    for (int i : new int[] {1, 0, 0, 1, 1, 2}) {
      if (hand.hang(i) == STATE) hand.take(i);
      hand.hour();
    }
    WashSails lot = Checks.town("w35l870k410o060");
    lot.lots(6, 1);
    due(lot.asked(), hand.asked());
    due(lot.upper(), 0);
    due(lot.digest(), hand.digest());
    says(36, "BAD;");
    for (int n : new int[] {0, -1, 21, LEAST, MOST}) {
      bad(Edges::six, y -> y.lots(n, 1));
      bad(Edges::fresh, y -> y.lots(n, 1));
    }
    for (int seed : new int[] {0, -1, LEAST, MOST}) {
      bad(Edges::six, y -> y.lots(1, seed));
      bad(Edges::fresh, y -> y.lots(1, seed));
    }
    says(36, "STATE: no LINES;");
    refused(Edges::fresh, STATE, y -> y.lots(1, 1));
    refused(Edges::fresh, STATE, y -> y.lots(20, 2147483646));
    says(36, "FULL: with twice n more there would be more than 40 DEEDS.");
    for (int n : new int[] {1, 2, 19, 20}) {
      WashSails fits = withDeeds("w1l010", 40 - 2 * n);
      due(fits.lots(n, 5), 1);
      due(fits.count(2), 40);
      refused(() -> withDeeds("w1l010", 41 - 2 * n), FULL, y -> y.lots(n, 5));
    }
    refused(() -> withDeeds("w1l010", 40), FULL, y -> y.lots(20, 5));
    says(36, "(FULL last.)");
    bad(() -> withDeeds("w1l010", 40), y -> y.lots(0, 1));
    bad(() -> withDeeds("w1l010", 40), y -> y.lots(21, 1));
    bad(() -> withDeeds("w1l010", 40), y -> y.lots(1, 0));
    refused(() -> withText("w1l010"), STATE, y -> y.lots(20, 1));
  }
}
