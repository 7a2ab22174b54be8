import java.util.function.ToIntBiFunction;

/** The boundary cases of promises 21 to 30: how it goes, voyages, who did not hang. */
final class GoesEdges extends Edges {
  static void run() {
    goes();
    even();
    fast();
    wet();
    sail();
    dry();
    far();
    soon();
    least();
    ways();
  }

  /** Told by odds() last, so that lower() is not 1. */
  private static WashSails shared(WashSails x) {
    withRow(x, 5, 16);
    x.odds(5, 6, 5);
    return x;
  }

  private static void goes() {
    says(21, "How many MILES the raft would go in this HOUR with a set hung out, told by asked();"
        + " how much more TURN would be by upper() (lower() is 1): 1.");
    WashSails x = shared(six());
    due(x.lower(), 12);
    tells(x, x.goes(0), 0, 0);
    tells(x, x.goes(63), 9, -14);
    tells(x, x.goes(8), -1, -8);
    tells(x, x.goes(32), 2, 40);
    tells(x, x.goes(9), 0, -32);
    // Aside: neither what is hung out nor how far it has gone has a part in it; the hour's wind has.
    x.hang(4);
    x.hour();
    tells(x, x.goes(8), -1, -12);
    tells(x, x.goes(4), 3, 0);
    due(x.count(3), 1);
    due(x.count(2), 2);
    x.hour();
    tells(x, x.goes(63), 0, 0);
    WashSails none = fresh();
    tells(none, none.goes(0), 0, 0);
    says(21, "BAD.");
    for (int set : new int[] {-1, 64, LEAST, MOST}) bad(Edges::six, y -> y.goes(set));
    for (int set : new int[] {2, 3, 63}) bad(() -> Checks.town("w1l010"), y -> y.goes(set));
    bad(Edges::fresh, y -> y.goes(1));
  }

  private static void even() {
    says(22, "How many sets would go so many MILES (-99 .. 99), and not TURN (nothing more, or less), told by upper() (lower() is 1);");
    WashSails x = shared(six());
    tells(x, x.even(5), 56, 2);
    // All sets of six lines where there is no wind.
    WashSails calm = Checks.town("w0l010s810b030k840o050p860");
    tells(calm, calm.even(0), 0, 64);
    tells(calm, calm.even(1), NONE, 0);
    // 396 by 4: three bolsters of 100, one of 80, a pennant of 16.
    WashSails most = Checks.town("w5o490o490o490o470p440");
    tells(most, most.even(99), 31, 1);
    tells(most, most.even(95), 15, 1);
    tells(most, most.even(-99), NONE, 0);
    WashSails least = Checks.town("w5k490k490k490k490k490k490");
    tells(least, least.even(-67), 63, 1);
    // Turned to either side: not even.
    WashSails turned = Checks.town("w1l340l540");
    tells(turned, turned.even(1), NONE, 0);
    tells(turned, turned.even(2), 3, 1);
    // Cut towards 0: 1 to 3 and -3 to -1 are no mile.
    WashSails cut = Checks.town("w1l430k430");
    tells(cut, cut.even(0), 0, 4);
    // What is hung out now has no part in it, nor how far it has gone.
    turned.hang(0);
    turned.hour();
    tells(turned, turned.even(2), 3, 1);
    says(22, "the first of the least LINEN by asked() (the least number of as little; NONE): 1.");
    WashSails some = Checks.town("w1l449l444l443l443");
    tells(some, some.even(1), 4, 4);
    tells(some, some.even(2), 12, 6);
    tells(some, some.even(4), 15, 1);
    tells(some, some.even(5), NONE, 0);
    // No more linen than none: the empty set is ahead of others that weigh nothing.
    WashSails light = Checks.town("w1l410l410");
    tells(light, light.even(0), 0, 4);
    says(22, "BAD;");
    for (int miles : new int[] {-100, 100, LEAST, MOST}) {
      bad(Edges::six, y -> y.even(miles));
      bad(Edges::fresh, y -> y.even(miles));
    }
    says(22, "STATE: no LINES.");
    refused(Edges::fresh, STATE, y -> y.even(0));
    refused(Edges::fresh, STATE, y -> y.even(99));
    refused(Edges::fresh, STATE, y -> y.even(-99));
  }

  private static void fastest(WashSails x, int linen, int miles, int set) {
    due(x.fast(linen), miles);
    due(x.asked(), set);
  }

  private static void fast() {
    says(23, "The most MILES by a set that has LINEN of so much (0 .. 99) at most together;");
    WashSails x = six();
    fastest(x, 0, 0, 0);
    fastest(x, 1, 2, 32);
    fastest(x, 2, 2, 2);
    fastest(x, 3, 5, 34);
    fastest(x, 99, 10, 51);
    // Just so much, and one too little.
    x = Checks.town("w4l419l419l419l419l419l419");
    fastest(x, 54, 6, 63);
    fastest(x, 53, 5, 31);
    fastest(x, 9, 1, 1);
    fastest(x, 8, 0, 0);
    // No line pulls ahead.
    fastest(Checks.town("w5k490k490"), 99, 0, 0);
    fastest(Checks.town("w0l490"), 99, 0, 0);
    // Lines without linen at a limit of 0.
    fastest(Checks.town("w4l410l411"), 0, 1, 1);
    says(23, "that set by asked() (the least number).");
    fastest(Checks.town("w4l410l410"), 99, 2, 3);
    fastest(Checks.town("w4l411l411"), 1, 1, 1);
    // The third adds less than a mile: it is left out, and so is a black one.
    fastest(Checks.town("w1l440l440l430"), 99, 2, 3);
    fastest(Checks.town("w1l430l440"), 99, 1, 2);
    fastest(Checks.town("w1l410k410l440"), 99, 1, 4);
    says(23, "BAD;");
    for (int linen : new int[] {-1, 100, LEAST, MOST}) {
      bad(Edges::six, y -> y.fast(linen));
      bad(Edges::fresh, y -> y.fast(linen));
    }
    says(23, "STATE: no LINES.");
    refused(Edges::fresh, STATE, y -> y.fast(0));
    refused(Edges::fresh, STATE, y -> y.fast(99));
  }

  private static void wet() {
    says(24, "LINES (bits) that are WET, hung out or not; how much all are WET by asked().");
    WashSails x = Checks.town("w0000001l010l010l010l010l010l010");
    due(x.wet(), 0);
    due(x.asked(), 0);
    x.hang(0);
    x.hang(5);
    x.hour();
    due(x.wet(), 33);
    due(x.asked(), 4);
    x.take(0);
    x.hour();
    due(x.wet(), 33);
    due(x.asked(), 6);
    for (int i = 0; i < 5; i++) x.hang(i);
    behindHours(x, 4);
    due(x.wet(), 63);
    due(x.asked(), 9 + 4 * 8 + 9);
    WashSails dried = Checks.town("w011l010");
    dried.hang(0);
    behindHours(dried, 2);
    due(dried.wet(), 1);
    due(dried.asked(), 1);
    dried.hour();
    due(dried.wet(), 0);
    due(dried.asked(), 0);
    WashSails none = fresh();
    due(none.wet(), 0);
  }

  private static WashSails withPlan(int... sets) { return withRow(six(), 0, sets); }

  /** The refusals that sail(), dry(), mid() and odds() share, and their order. */
  static void plansRefused(int part, String order, ToIntBiFunction<WashSails, Integer> call) {
    says(part, order);
    for (int r : new int[] {-1, 6, LEAST, MOST}) {
      bad(Edges::fresh, x -> call.applyAsInt(x, r));
      bad(Edges::six, x -> call.applyAsInt(x, r));
    }
    refused(Edges::fresh, STATE, x -> call.applyAsInt(x, 0));
    refused(() -> withRow(fresh(), 0, 0), STATE, x -> call.applyAsInt(x, 0));
    for (int r = 0; r <= 5; r++) {
      int row = r;
      found(Edges::six, NOTHING, x -> call.applyAsInt(x, row));
    }
    found(() -> withPlan(0, 0, 0, 0, 0, 0, 0), SIZE, x -> call.applyAsInt(x, 0));
    found(() -> {
      WashSails x = six();
      x.row(0, 40);
      return x;
    }, SIZE, x -> call.applyAsInt(x, 0));
    for (int set : new int[] {-1, 64, LEAST, MOST}) found(() -> withPlan(set), UNLIKE, x -> call.applyAsInt(x, 0));
    found(() -> withPlan(0, 0, 0, 0, 0, 64), UNLIKE, x -> call.applyAsInt(x, 0));
    found(() -> withRow(Checks.town("w1l010"), 0, 1, 2), UNLIKE, x -> call.applyAsInt(x, 0));
    due(call.applyAsInt(withPlan(63, 63, 63, 63, 63, 63), 0) >= 0 ? 1 : 0, 1);
    says(part, "(In this order.)");
    // No lines and a row that is too long, or holds no set; too long, and no set in it.
    refused(() -> withRow(fresh(), 0, 64, 64, 64, 64, 64, 64, 64), STATE, x -> call.applyAsInt(x, 0));
    refused(() -> withRow(fresh(), 0, -1), STATE, x -> call.applyAsInt(x, 0));
    found(() -> withPlan(64, 64, 64, 64, 64, 64, 64), SIZE, x -> call.applyAsInt(x, 0));
  }

  private static void sail() {
    says(25, "By a PLAN in a ROW: MILES behind it (all), told by asked(); TURN by upper() (lower() is 1): 1.");
    WashSails x = shared(six());
    withRow(x, 0);
    tells(x, x.sail(0), 0, 0);
    withRow(x, 0, 63, 63, 63, 63, 63, 63);
    // 38 73 0 121 38 73 by 4; turned by -14 -17 0 -31 -14 -17.
    tells(x, x.sail(0), 9 + 18 + 0 + 30 + 9 + 18, -14 - 17 - 31 - 14 - 17);
    x.hang(3);
    x.hour();
    withRow(x, 0);
    tells(x, x.sail(0), -1, -8);
    withRow(x, 0, 8, 8, 8);
    tells(x, x.sail(0), -1 - 1 - 0 - 2, -8 - 12 - 0 - 20);
    counts(x, 6, 1, 2, 1, 0);
    plansRefused(25, "BAD; STATE: no LINES; NOTHING; SIZE: more than 6; UNLIKE: no set.", (y, r) -> y.sail(r));
  }

  private static void dry() {
    says(26, "LINES (bits) that are dry behind a PLAN.");
    WashSails x = Checks.town("w000001l010l010l010");
    withRow(x, 0);
    due(x.dry(0), 7);
    withRow(x, 0, 1, 0, 0, 0, 0, 0);
    due(x.dry(0), 6);
    withRow(x, 0, 7, 7, 7, 7, 7, 7);
    due(x.dry(0), 0);
    x = Checks.town("w011000l010l010l010");
    withRow(x, 0, 3, 1, 3);
    due(x.dry(0), 5);
    withRow(x, 0, 3, 3, 3);
    due(x.dry(0), 7);
    withRow(x, 0, 3, 3, 3, 4);
    due(x.dry(0), 3);
    // From how wet they are now on, in this hour's wind.
    x.hang(2);
    x.hour();
    withRow(x, 0);
    due(x.dry(0), 3);
    withRow(x, 0, 4, 4);
    due(x.dry(0), 7);
    withRow(x, 0, 4, 4, 1);
    due(x.dry(0), 6);
    due(x.wet(), 4);
    due(x.asked(), 2);
    plansRefused(26, "BAD; STATE; NOTHING; SIZE; UNLIKE.", (y, r) -> y.dry(r));
  }

  private static void farthest(WashSails x, int n, int t, int miles, int... plan) {
    asks(x, x.far(n, t, 1), miles);
    rowIs(x, 1, plan);
  }

  private static void far() {
    says(27, "The most MILES (all) behind n (0 .. 3) HOURS,");
    WashSails x = Checks.town("w14l440k440");
    farthest(x, 0, 0, 0);
    farthest(x, 1, 0, 1, 1);
    farthest(x, 2, 0, 5, 1, 1);
    farthest(x, 3, 0, 6, 1, 1, 1);
    x.hang(1);
    behindHours(x, 2);
    due(x.miles(), -5);
    farthest(x, 0, 0, -5);
    farthest(x, 1, 0, -4, 1);
    farthest(x, 3, 0, 1, 1, 1, 1);
    says(27, "TURN never being (behind an HOUR) above t (0 .. 999), nor below it, taken below 0;");
    x = Checks.town("w5l540");
    farthest(x, 3, 19, 0, 0, 0, 0);
    farthest(x, 3, 20, 5, 0, 0, 1);
    farthest(x, 3, 59, 10, 0, 1, 1);
    farthest(x, 3, 60, 15, 1, 1, 1);
    x = Checks.town("w5l340");
    farthest(x, 3, 19, 0, 0, 0, 0);
    farthest(x, 3, 20, 5, 0, 0, 1);
    farthest(x, 3, 60, 15, 1, 1, 1);
    // Never in between: turned by 18 by a line in a wind of 1, then back by 20 by a blanket, which pulls in a wind of 5 alone.
    for (String town : new String[] {"w15l690b340", "w15l290b540"}) {
      x = Checks.town(town);
      farthest(x, 2, 17, 0, 0, 0);
      farthest(x, 2, 18, 7, 1, 2);
    }
    // 333 by 3 to either side are 999.
    for (String town : new String[] {"w5o790o790o790p790", "w5o190o190o190p190"}) {
      x = Checks.town(town);
      farthest(x, 1, 999, 83, 15);
      farthest(x, 1, 998, 75, 7);
    }
    // 250 by 4 are 1000.
    for (String town : new String[] {"w5o890o890o840", "w5o090o090o040"}) farthest(Checks.town(town), 1, 999, 50, 3);
    // From how it is turned now on.
    x = Checks.town("w5l540l340");
    x.hang(0);
    x.hour();
    farthest(x, 1, 20, 5 + 10, 3);
    farthest(x, 1, 19, 5 + 5, 2);
    farthest(x, 1, 0, 5 + 5, 2);
    says(27, "told by asked(); the first such PLAN comes to a ROW (anew): 1.");
    x = six();
    x.row(1, 40);
    x.lay(1, 0, 99);
    farthest(x, 1, 9, 10, 51);
    farthest(x, 0, 9, 0);
    due(x.count(7), 1);
    // Also where there was no row; the other rows stay.
    x = withRow(six(), 0, 5);
    asks(x, x.far(2, 999, 5), 29);
    rowIs(x, 5, 51, 55);
    rowIs(x, 0, 5);
    due(x.count(7), 2);
    due(x.count(2), 0);
    says(27, "NONE: by none.");
    x = Checks.town("w5l890");
    x.hang(0);
    behindHours(x, 1);
    withRow(x, 0, 7);
    x.at(0, 0);
    long before = x.digest();
    for (int n = 1; n <= 3; n++) due(x.far(n, 179, 0), NONE);
    due(x.digest(), before);
    due(x.asked(), 7);
    due(x.upper(), 180);
    due(x.finding(), 0);
    due(x.far(1, 180, 0), 1);
    due(x.far(0, 179, 0), 1);
    // Turned by 56; back by 30 an hour, which is far enough behind the second one alone.
    x = Checks.town("w2l870l150");
    x.hang(0);
    x.hour();
    due(x.far(2, 7, 0), NONE);
    due(x.far(2, 25, 0), NONE);
    farthest(x, 2, 26, 3 + 2 + 2, 2, 2);
    says(27, "BAD;");
    for (int n : new int[] {-1, 4, LEAST, MOST}) bad(Edges::six, y -> y.far(n, 0, 0));
    for (int t : new int[] {-1, 1000, LEAST, MOST}) bad(Edges::six, y -> y.far(1, t, 0));
    for (int r : new int[] {-1, 6, LEAST, MOST}) bad(Edges::six, y -> y.far(1, 0, r));
    bad(Edges::fresh, y -> y.far(4, 0, 0));
    bad(Edges::fresh, y -> y.far(0, 1000, 0));
    bad(Edges::fresh, y -> y.far(0, 0, 6));
    says(27, "STATE: no LINES.");
    refused(Edges::fresh, STATE, y -> y.far(0, 0, 0));
    refused(Edges::fresh, STATE, y -> y.far(3, 999, 5));
  }

  private static void soon() {
    says(28, "The fewest HOURS (0 .. 3) behind which MILES (all) can be as told (-999 .. 999), or more.");
    WashSails x = Checks.town("w1234l440k490");
    int[] hours = {0, 1, 2, 2, 3, 3, 3};
    for (int miles = 0; miles <= 6; miles++) due(x.soon(miles), hours[miles]);
    due(x.soon(-1), 0);
    due(x.soon(-999), 0);
    // Each hour's pulls are cut, and none is lent by a line that is not of use.
    x = Checks.town("w1l430k490b490");
    due(x.soon(0), 0);
    due(x.soon(1), NONE);
    x = Checks.town("w1l470");
    due(x.soon(1), 1);
    due(x.soon(2), 2);
    due(x.soon(3), 3);
    due(x.soon(4), NONE);
    // An hour without wind in between.
    x = Checks.town("w400l440");
    due(x.soon(4), 1);
    due(x.soon(5), NONE);
    x = Checks.town("w004l440");
    due(x.soon(4), 3);
    // All that it has gone; from this hour on.
    x = Checks.town("w14l440k440");
    x.hang(1);
    behindHours(x, 2);
    due(x.miles(), -5);
    due(x.soon(-5), 0);
    due(x.soon(-4), 1);
    due(x.soon(-3), 2);
    due(x.soon(0), 2);
    due(x.soon(1), 3);
    // As far as can be told: 150 an hour.
    x = Checks.town("w5o490o490o490o490o490o490");
    for (int i = 0; i < 6; i++) x.hang(i);
    behindHours(x, 5);
    due(x.miles(), 750);
    due(x.soon(750), 0);
    due(x.soon(751), 1);
    due(x.soon(900), 1);
    due(x.soon(901), 2);
    due(x.soon(999), 2);
    says(28, "NONE: not in 3.");
    x = Checks.town("w1234l440k490");
    due(x.soon(7), NONE);
    due(x.soon(999), NONE);
    due(Checks.town("w0l490").soon(1), NONE);
    due(Checks.town("w0001l490").soon(1), NONE);
    due(Checks.town("w5k490").soon(1), NONE);
    says(28, "BAD;");
    for (int miles : new int[] {-1000, 1000, LEAST, MOST}) {
      bad(Edges::six, y -> y.soon(miles));
      bad(Edges::fresh, y -> y.soon(miles));
    }
    says(28, "STATE: no LINES.");
    refused(Edges::fresh, STATE, y -> y.soon(0));
    refused(Edges::fresh, STATE, y -> y.soon(-999));
    refused(Edges::fresh, STATE, y -> y.soon(999));
  }

  private static void least() {
    says(29, "The least LINEN (of each LINE hung out some time, once) of PLANS of n (0 .. 3) HOURS behind which MILES are as told, or more.");
    WashSails x = Checks.town("w1l447l443l441");
    due(x.least(0, 0), 0);
    due(x.least(1, 0), 0);
    due(x.least(1, 1), 1);
    due(x.least(1, 2), 4);
    due(x.least(1, 3), 11);
    due(x.least(2, 2), 1);
    due(x.least(2, 3), 4);
    due(x.least(3, 3), 1);
    due(x.least(3, 4), 4);
    due(x.least(3, 9), 11);
    due(x.least(3, -5), 0);
    // MILES are all that there are then.
    x.hang(0);
    behindHours(x, 2);
    due(x.least(0, 2), 0);
    due(x.least(0, 3), NONE);
    due(x.least(1, 3), 1);
    due(x.least(3, 5), 1);
    // A line that would hold it back is not hung out in each hour: a blanket and a line by turns, each counts once.
    x = Checks.town("w24b482l424");
    due(x.least(2, 8), 2);
    due(x.least(2, 9), 6);
    due(x.least(2, 11), 6);
    due(x.least(2, 12), NONE);
    // Each hour's pulls are cut.
    due(Checks.town("w1l431k491b491").least(3, 1), NONE);
    due(Checks.town("w1l472l415").least(1, 1), 2);
    due(Checks.town("w1l472l415").least(1, 2), 7);
    due(Checks.town("w1l472l415").least(2, 3), 7);
    // Without linen.
    due(Checks.town("w4l440").least(1, 4), 0);
    says(29, "NONE: by none.");
    due(Checks.town("w1l440").least(0, 1), NONE);
    due(Checks.town("w1l440").least(1, 2), NONE);
    due(Checks.town("w1l440").least(3, 4), NONE);
    due(Checks.town("w1l440").least(3, MOST), NONE);
    due(Checks.town("w1l440").least(3, LEAST), 0);
    WashSails back = Checks.town("w5k490");
    back.hang(0);
    back.hour();
    due(back.least(3, -10), NONE);
    due(back.least(3, -11), 0);
    says(29, "BAD;");
    for (int n : new int[] {-1, 4, LEAST, MOST}) {
      bad(Edges::six, y -> y.least(n, 0));
      bad(Edges::fresh, y -> y.least(n, 0));
    }
    says(29, "STATE: no LINES.");
    refused(Edges::fresh, STATE, y -> y.least(0, 0));
    refused(Edges::fresh, STATE, y -> y.least(3, 9));
  }

  private static void ways() {
    says(30, "By how many sets it would go so many MILES (-99 .. 99), and TURN so much more (-999 .. 999), in this HOUR, told by upper() (lower() is 1);");
    WashSails x = shared(six());
    tells(x, x.ways(9, -14), 63 - 4, 2);
    x.hour();
    tells(x, x.ways(18, -17), 63, 1);
    x.hour();
    tells(x, x.ways(0, 0), 0, 64);
    // As far as -99 .. 99 and as much turned as 999 to either side.
    WashSails most = Checks.town("w5o490o490o490o470p440");
    tells(most, most.ways(99, 0), 31, 1);
    tells(most, most.ways(98, 0), 0, 0);
    WashSails back = Checks.town("w5k490k490k490k490k490k490");
    tells(back, back.ways(-67, 0), 63, 1);
    tells(back, back.ways(-99, 0), 0, 0);
    // 333 by 3 to either side are 999.
    WashSails right = Checks.town("w5o790o790o790p790");
    tells(right, right.ways(83, 999), 15, 1);
    tells(right, right.ways(83, 998), 0, 0);
    WashSails left = Checks.town("w5o190o190o190p190");
    tells(left, left.ways(83, -999), 15, 1);
    tells(left, left.ways(83, 999), 0, 0);
    says(30, "LINES (bits) that were hung out in all of these by asked() (0: there are none): 1.");
    x = Checks.town("w1l540l540l440");
    tells(x, x.ways(1, 4), 0, 2);
    tells(x, x.ways(2, 4), 4, 2);
    tells(x, x.ways(3, 8), 7, 1);
    tells(x, x.ways(0, 0), 0, 1);
    tells(x, x.ways(3, 4), 0, 0);
    tells(x, x.ways(-99, -999), 0, 0);
    says(30, "BAD;");
    for (int miles : new int[] {-100, 100, LEAST, MOST}) {
      bad(Edges::six, y -> y.ways(miles, 0));
      bad(Edges::fresh, y -> y.ways(miles, 0));
    }
    for (int turn : new int[] {-1000, 1000, LEAST, MOST}) {
      bad(Edges::six, y -> y.ways(0, turn));
      bad(Edges::fresh, y -> y.ways(0, turn));
    }
    says(30, "STATE: no LINES.");
    refused(Edges::fresh, STATE, y -> y.ways(0, 0));
    refused(Edges::fresh, STATE, y -> y.ways(99, 999));
    refused(Edges::fresh, STATE, y -> y.ways(-99, -999));
  }
}
