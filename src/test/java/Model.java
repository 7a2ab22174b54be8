import java.math.BigInteger;
import java.util.ArrayList;
import java.util.Arrays;
import java.util.List;
import java.util.regex.Matcher;
import java.util.regex.Pattern;

/** The document once more, in the plainest form: every set, plan and gust is tried, every state is kept whole. */
final class Model {
  static final int BAD = -1, FULL = -2, FINDING = -3, STATE = -4, NONE = -9;
  static final int NOTHING = 1, BEYOND = 2, UNLIKE = 3, NOUGHT = 4, SIZE = 5;

  static class Line {
    int place, area, linen;
    int pull(int wind) { return area * wind; }
  }
  static class Sheet extends Line {
    int pull(int wind) { return super.pull(wind) + wind; }
  }
  static final class Blanket extends Line {
    int pull(int wind) { return wind < 3 ? 0 : super.pull(wind); }
  }
  static final class Black extends Line {
    int pull(int wind) { return 0 - super.pull(wind); }
  }
  static class Bolster extends Sheet {
    int pull(int wind) { return 2 * super.pull(wind); }
  }
  static final class Pennant extends Bolster {
    int pull(int wind) { return super.pull(wind) / 3; }
  }

  static Line make(int kind) {
    return switch (kind) {
      case 0 -> new Line();
      case 1 -> new Sheet();
      case 2 -> new Blanket();
      case 3 -> new Black();
      case 4 -> new Bolster();
      default -> new Pennant();
    };
  }

  static int kindOf(Line x) {
    if (x instanceof Pennant) return 5;
    if (x instanceof Bolster) return 4;
    if (x instanceof Sheet) return 1;
    if (x instanceof Black) return 3;
    return x instanceof Blanket ? 2 : 0;
  }

  static boolean is(Line x, int kind) {
    return make(kind).getClass().isInstance(x);
  }

  record State(int hung, int hour, int miles, int turn, List<Integer> wet) { }

  final int[][] rows = new int[6][];
  final byte[][] texts = new byte[4][];
  List<Line> lines = new ArrayList<>();
  String winds = "";
  List<State> past = new ArrayList<>(List.of(new State(0, 0, 0, 0, List.of())));
  @SuppressWarnings("unchecked")
  final List<State>[] kept = new List[3];
  int asked, finding;
  final int[] findings = new int[6];
  long upper, lower = 1;

  private int refuse(int f) { finding = f; findings[f]++; return FINDING; }
  private int tell(long v) { asked = (int) v; return 1; }
  private void share(BigInteger up, BigInteger low) {
    BigInteger g = up.gcd(low);
    upper = up.divide(g).longValueExact();
    lower = low.divide(g).longValueExact();
  }
  private static boolean in(int v, int low, int high) { return v >= low && v <= high; }
  private State now() { return past.get(past.size() - 1); }
  private int deeds() { return past.size() - 1; }
  int milesNow() { return now().miles(); }
  private int windOf(int hour) { return winds.charAt(hour % winds.length()) - '0'; }
  private int sets() { return 1 << lines.size(); }

  int row(int r, int n) {
    if (!in(r, 0, 5) || n > 40) return BAD;
    if (n < 0) return refuse(SIZE);
    rows[r] = new int[n];
    return n;
  }
  int lay(int r, int i, int v) {
    if (!in(r, 0, 5)) return BAD;
    if (rows[r] == null) return refuse(NOTHING);
    if (!in(i, 0, rows[r].length - 1)) return refuse(BEYOND);
    tell(rows[r][i]);
    rows[r][i] = v;
    return 1;
  }
  int at(int r, int i) {
    if (!in(r, 0, 5)) return BAD;
    if (rows[r] == null) return refuse(NOTHING);
    if (!in(i, 0, rows[r].length - 1)) return refuse(BEYOND);
    return tell(rows[r][i]);
  }
  int tear(int r) {
    if (!in(r, 0, 5)) return BAD;
    if (rows[r] == null) return refuse(NOTHING);
    rows[r] = null;
    return 1;
  }
  int copy(int r, int i, int to, int j, int n) {
    if (!in(r, 0, 5) || !in(to, 0, 5)) return BAD;
    if (n < 0) return refuse(SIZE);
    if (rows[r] == null || rows[to] == null) return refuse(NOTHING);
    if (i < 0 || j < 0 || (long) i + n > rows[r].length || (long) j + n > rows[to].length) return refuse(BEYOND);
    int[] taken = Arrays.copyOfRange(rows[r], i, i + n);
    for (int k = 0; k < n; k++) rows[to][j + k] = taken[k];
    return 1;
  }
  int mean(int r) {
    if (!in(r, 0, 5)) return BAD;
    if (rows[r] == null) return refuse(NOTHING);
    if (rows[r].length == 0) return refuse(NOUGHT);
    return tell(Arrays.stream(rows[r]).asLongStream().sum() / rows[r].length);
  }
  int text(int t, int n) {
    if (!in(t, 0, 3) || n > 60) return BAD;
    if (n < 0) return refuse(SIZE);
    texts[t] = new byte[n];
    Arrays.fill(texts[t], (byte) 32);
    return n;
  }
  int put(int t, int i, int v) {
    if (!in(t, 0, 3)) return BAD;
    if (texts[t] == null) return refuse(NOTHING);
    if (!in(i, 0, texts[t].length - 1)) return refuse(BEYOND);
    int was = texts[t][i];
    texts[t][i] = (byte) v;
    return was + 1000;
  }

  private static final Pattern TOWN = Pattern.compile(" *w([0-5]{1,8}) *((?:[lsbkop][0-8][1-9][0-9] *){1,6})");

  private String asText(int t) {
    StringBuilder s = new StringBuilder();
    for (byte b : texts[t]) s.append((char) (b & 255));
    return s.toString();
  }

  /** The longest beginning that some town could go on from. */
  private static int faultOf(String text) {
    if (TOWN.matcher(text).matches()) return NONE;
    for (int p = text.length(); p > 0; p--) {
      Matcher m = TOWN.matcher(text.substring(0, p));
      if (m.matches() || m.hitEnd()) return p;
    }
    return 0;
  }
  int fault(int t) {
    if (!in(t, 0, 3)) return BAD;
    if (texts[t] == null) return refuse(NOTHING);
    return faultOf(asText(t));
  }
  int town(int t) {
    if (!in(t, 0, 3)) return BAD;
    if (texts[t] == null) return refuse(NOTHING);
    Matcher m = TOWN.matcher(asText(t));
    if (!m.matches()) return STATE;
    winds = m.group(1);
    lines = new ArrayList<>();
    String items = m.group(2).replace(" ", "");
    for (int k = 0; k < items.length(); k += 4) {
      Line x = make("lsbkop".indexOf(items.charAt(k)));
      x.place = items.charAt(k + 1) - '4';
      x.area = items.charAt(k + 2) - '0';
      x.linen = items.charAt(k + 3) - '0';
      lines.add(x);
    }
    past = new ArrayList<>();
    List<Integer> dry = new ArrayList<>();
    for (int i = 0; i < lines.size(); i++) dry.add(0);
    past.add(new State(0, 0, 0, 0, dry));
    Arrays.fill(kept, null);
    return lines.size();
  }

  private int trait(int i, int what) {
    Line x = lines.get(i);
    return switch (what) {
      case 0 -> kindOf(x);
      case 1 -> x.place;
      case 2 -> x.area;
      case 3 -> x.linen;
      case 4 -> now().hung() >> i & 1;
      case 5 -> now().wet().get(i);
      default -> x.pull(windOf(now().hour()));
    };
  }
  int line(int i, int what) {
    if (!in(i, 0, lines.size() - 1) || !in(what, 0, 6)) return BAD;
    return tell(trait(i, what));
  }
  int mark(int i, int kind) {
    if (!in(i, 0, lines.size() - 1) || !in(kind, 1, 5)) return BAD;
    Line x = lines.get(i);
    if (!is(x, kind)) return refuse(UNLIKE);
    if (kind == 1) return x.pull(5);
    if (kind == 2) {
      for (int h = 0; h <= 7; h++) if (windOf(now().hour() + h) >= 3) return h;
      return NONE;
    }
    int n = 0;
    if (kind == 3) {
      for (int j = 0; j < lines.size(); j++) if (j != i && (now().hung() >> j & 1) == 1) n++;
      return n;
    }
    if (kind == 4) {
      for (Line y : lines) if (y != x && y.area <= x.area) n++;
      return n;
    }
    Line y = new Bolster();
    y.area = x.area;
    return y.pull(windOf(now().hour())) - x.pull(windOf(now().hour()));
  }
  int wind(int hour) {
    if (!in(hour, 0, 999)) return BAD;
    return lines.isEmpty() ? STATE : windOf(hour);
  }

  private State with(int hung) {
    State s = now();
    return new State(hung, s.hour(), s.miles(), s.turn(), s.wet());
  }

  private State passed(State s, int hung, int gust) {
    int wind = windOf(s.hour()) + gust;
    int pulls = 0, turn = s.turn();
    List<Integer> wet = new ArrayList<>(s.wet());
    for (int i = 0; i < lines.size(); i++) {
      if ((hung >> i & 1) == 0) continue;
      int pull = lines.get(i).pull(wind);
      pulls += pull;
      turn += pull * lines.get(i).place;
      if (wind == 0) wet.set(i, Math.min(9, wet.get(i) + 2));
      else if (wet.get(i) > 0) wet.set(i, wet.get(i) - 1);
    }
    return new State(s.hung(), s.hour() + 1, s.miles() + pulls / 4, turn, wet);
  }

  int hang(int i) {
    if (!in(i, 0, lines.size() - 1)) return BAD;
    if ((now().hung() >> i & 1) == 1) return STATE;
    if (deeds() == 40) return FULL;
    past.add(with(now().hung() | 1 << i));
    return Integer.bitCount(now().hung());
  }
  int take(int i) {
    if (!in(i, 0, lines.size() - 1)) return BAD;
    if ((now().hung() >> i & 1) == 0) return STATE;
    if (deeds() == 40) return FULL;
    past.add(with(now().hung() & ~(1 << i)));
    return now().wet().get(i);
  }
  int hour() {
    if (lines.isEmpty()) return STATE;
    if (deeds() == 40) return FULL;
    past.add(passed(now(), now().hung(), 0));
    upper = now().turn();
    lower = 1;
    return tell(now().miles());
  }
  int undo(int n) {
    if (!in(n, 0, deeds())) return BAD;
    int was = deeds();
    past = new ArrayList<>(past.subList(0, n + 1));
    return was - n;
  }
  int keep(int k) {
    if (!in(k, 0, 2)) return BAD;
    if (lines.isEmpty()) return STATE;
    kept[k] = new ArrayList<>(past);
    return deeds();
  }
  int on(int k) {
    if (!in(k, 0, 2)) return BAD;
    if (kept[k] == null) return refuse(NOTHING);
    past = new ArrayList<>(kept[k]);
    return deeds();
  }

  private int milesOf(int set) { return passed(now(), set, 0).miles() - now().miles(); }
  private int turnOf(int set) { return passed(now(), set, 0).turn() - now().turn(); }
  private int linenOf(int set) {
    int n = 0;
    for (int i = 0; i < lines.size(); i++) if ((set >> i & 1) == 1) n += lines.get(i).linen;
    return n;
  }

  int goes(int set) {
    if (!in(set, 0, sets() - 1)) return BAD;
    upper = lines.isEmpty() ? 0 : turnOf(set);
    lower = 1;
    return tell(lines.isEmpty() ? 0 : milesOf(set));
  }
  int even(int miles) {
    if (!in(miles, -99, 99)) return BAD;
    if (lines.isEmpty()) return STATE;
    List<Integer> found = new ArrayList<>();
    for (int set = 0; set < sets(); set++) if (milesOf(set) == miles && turnOf(set) == 0) found.add(set);
    upper = found.size();
    lower = 1;
    found.sort((a, b) -> linenOf(a) != linenOf(b) ? linenOf(a) - linenOf(b) : a - b);
    return tell(found.isEmpty() ? NONE : found.get(0));
  }
  int fast(int linen) {
    if (!in(linen, 0, 99)) return BAD;
    if (lines.isEmpty()) return STATE;
    List<Integer> found = new ArrayList<>();
    for (int set = 0; set < sets(); set++) if (linenOf(set) <= linen) found.add(set);
    found.sort((a, b) -> milesOf(a) != milesOf(b) ? milesOf(b) - milesOf(a) : a - b);
    tell(found.get(0));
    return milesOf(found.get(0));
  }
  int wet() {
    int bits = 0, all = 0;
    for (int i = 0; i < lines.size(); i++) {
      if (now().wet().get(i) > 0) bits |= 1 << i;
      all += now().wet().get(i);
    }
    tell(all);
    return bits;
  }

  private int planRefused(int r) {
    if (!in(r, 0, 5)) return BAD;
    if (lines.isEmpty()) return STATE;
    if (rows[r] == null) return refuse(NOTHING);
    if (rows[r].length > 6) return refuse(SIZE);
    for (int set : rows[r]) if (!in(set, 0, sets() - 1)) return refuse(UNLIKE);
    return 0;
  }
  private State behind(int[] plan) {
    State s = now();
    for (int set : plan) s = passed(s, set, 0);
    return s;
  }
  int sail(int r) {
    int refused = planRefused(r);
    if (refused != 0) return refused;
    State s = behind(rows[r]);
    upper = s.turn();
    lower = 1;
    return tell(s.miles());
  }
  int dry(int r) {
    int refused = planRefused(r);
    if (refused != 0) return refused;
    int bits = 0;
    for (int i = 0; i < lines.size(); i++) if (behind(rows[r]).wet().get(i) == 0) bits |= 1 << i;
    return bits;
  }

  /** Miles and turns of each set in the hours ahead, so that all plans can be tried in good time. */
  private int[][][] ahead(int n) {
    int[][][] go = new int[n][sets()][2];
    State s = now();
    for (int k = 0; k < n; k++) {
      for (int set = 0; set < sets(); set++) {
        State then = passed(s, set, 0);
        go[k][set][0] = then.miles() - s.miles();
        go[k][set][1] = then.turn() - s.turn();
      }
      s = passed(s, 0, 0);
    }
    return go;
  }
  private int plans(int n) { return 1 << n * lines.size(); }
  private int setOf(int plan, int k, int n) { return plan >> (n - 1 - k) * lines.size() & sets() - 1; }

  int far(int n, int t, int r) {
    if (!in(n, 0, 3) || !in(t, 0, 999) || !in(r, 0, 5)) return BAD;
    if (lines.isEmpty()) return STATE;
    int[][][] go = ahead(n);
    int best = -1, most = 0;
    for (int plan = 0; plan < plans(n); plan++) {
      int miles = now().miles(), turn = now().turn();
      boolean ok = true;
      for (int k = 0; k < n; k++) {
        miles += go[k][setOf(plan, k, n)][0];
        turn += go[k][setOf(plan, k, n)][1];
        if (Math.abs(turn) > t) ok = false;
      }
      if (ok && (best < 0 || miles > most)) {
        best = plan;
        most = miles;
      }
    }
    if (best < 0) return NONE;
    rows[r] = new int[n];
    for (int k = 0; k < n; k++) rows[r][k] = setOf(best, k, n);
    return tell(most);
  }
  private int leastBy(int n, int miles) {
    int[][][] go = ahead(n);
    int least = Integer.MAX_VALUE;
    for (int plan = 0; plan < plans(n); plan++) {
      int m = now().miles(), used = 0;
      for (int k = 0; k < n; k++) {
        m += go[k][setOf(plan, k, n)][0];
        used |= setOf(plan, k, n);
      }
      if (m >= miles) least = Math.min(least, linenOf(used));
    }
    return least == Integer.MAX_VALUE ? NONE : least;
  }
  int soon(int miles) {
    if (!in(miles, -999, 999)) return BAD;
    if (lines.isEmpty()) return STATE;
    for (int n = 0; n <= 3; n++) if (leastBy(n, miles) != NONE) return n;
    return NONE;
  }
  int least(int n, int miles) {
    if (!in(n, 0, 3)) return BAD;
    if (lines.isEmpty()) return STATE;
    return leastBy(n, miles);
  }
  int ways(int miles, int turn) {
    if (!in(miles, -99, 99) || !in(turn, -999, 999)) return BAD;
    if (lines.isEmpty()) return STATE;
    int n = 0;
    int[] hung = new int[lines.size()];
    for (int set = 0; set < sets(); set++) {
      if (milesOf(set) != miles || turnOf(set) != turn) continue;
      n++;
      for (int i = 0; i < hung.length; i++) hung[i] += set >> i & 1;
    }
    int bits = 0;
    for (int i = 0; i < hung.length; i++) if (n > 0 && hung[i] == n) bits |= 1 << i;
    upper = n;
    lower = 1;
    return tell(bits);
  }

  private int pairsRefused(int i, int r) {
    if (!in(i, 0, lines.size() - 1) || !in(r, 0, 5)) return BAD;
    if (rows[r] == null) return refuse(NOTHING);
    if (rows[r].length % 2 == 1 || rows[r].length / 2 > 10) return refuse(SIZE);
    for (int k = 0; k < rows[r].length; k += 2) if (!in(rows[r][k], 0, 6)) return refuse(UNLIKE);
    return 0;
  }
  private boolean pulled(int kind, int area, int[] pairs) {
    Line x = make(kind);
    x.area = area;
    for (int k = 0; k < pairs.length; k += 2) if (x.pull(pairs[k]) != pairs[k + 1]) return false;
    return true;
  }
  int kinds(int i, int r) {
    int refused = pairsRefused(i, r);
    if (refused != 0) return refused;
    int bits = 0;
    for (int kind = 0; kind <= 5; kind++) if (pulled(kind, lines.get(i).area, rows[r])) bits += 1 << kind;
    return bits;
  }
  int areas(int i, int r) {
    int refused = pairsRefused(i, r);
    if (refused != 0) return refused;
    int bits = 0;
    for (int area = 1; area <= 9; area++) if (pulled(kindOf(lines.get(i)), area, rows[r])) bits += 1 << area;
    return bits;
  }

  private int townHangs(int hung, int n) {
    if (n == 0) return milesOf(hung);
    int most = rivalTakes(hung, n);
    for (int i = 0; i < lines.size(); i++) {
      if ((hung >> i & 1) == 0) most = Math.max(most, rivalTakes(hung + (1 << i), n));
    }
    return most;
  }
  private int rivalTakes(int hung, int n) {
    int least = townHangs(hung, n - 1);
    for (int i = 0; i < lines.size(); i++) {
      if ((hung >> i & 1) == 1) least = Math.min(least, townHangs(hung - (1 << i), n - 1));
    }
    return least;
  }
  int rival(int n) {
    if (!in(n, 0, 2)) return BAD;
    if (lines.isEmpty()) return STATE;
    return tell(townHangs(now().hung(), n));
  }

  /** Of all that may come: the sum of miles by chances in parts of 12 to the hours, or of chances of miles enough. */
  private BigInteger chances(State s, int[] plan, int k, int p, Integer miles) {
    if (k == plan.length) {
      if (miles == null) return BigInteger.valueOf(s.miles());
      return s.miles() >= miles ? BigInteger.ONE : BigInteger.ZERO;
    }
    BigInteger calm = chances(passed(s, plan[k], 0), plan, k + 1, p, miles);
    BigInteger gusty = chances(passed(s, plan[k], 1), plan, k + 1, p, miles);
    return calm.multiply(BigInteger.valueOf(12 - p)).add(gusty.multiply(BigInteger.valueOf(p)));
  }
  int mid(int r, int p) {
    if (!in(p, 0, 12)) return BAD;
    int refused = planRefused(r);
    if (refused != 0) return refused;
    share(chances(now(), rows[r], 0, p, null), BigInteger.valueOf(12).pow(rows[r].length));
    return 1;
  }
  int odds(int r, int miles, int p) {
    if (!in(p, 0, 12) || !in(miles, -999, 999)) return BAD;
    int refused = planRefused(r);
    if (refused != 0) return refused;
    share(chances(now(), rows[r], 0, p, miles), BigInteger.valueOf(12).pow(rows[r].length));
    return 1;
  }
  int lots(int n, int seed) {
    if (!in(n, 1, 20) || !in(seed, 1, 2147483646)) return BAD;
    if (lines.isEmpty()) return STATE;
    if (deeds() + 2 * n > 40) return FULL;
    BigInteger lot = BigInteger.valueOf(seed);
    for (int k = 0; k < n; k++) {
      lot = lot.multiply(BigInteger.valueOf(48271)).mod(BigInteger.valueOf(2147483647));
      past.add(with(now().hung() ^ 1 << lot.mod(BigInteger.valueOf(lines.size())).intValue()));
      past.add(passed(now(), now().hung(), 0));
    }
    return tell(now().miles());
  }

  int count(int what) {
    int n = 0;
    switch (what) {
      case 0: return lines.size();
      case 1: return now().hour();
      case 2: return deeds();
      case 3: return Integer.bitCount(now().hung());
      case 4: for (int w : now().wet()) n += w; return n;
      case 5: for (Line x : lines) if (x instanceof Sheet) n++; return n;
      case 6: for (Line x : lines) if (x instanceof Bolster) n++; return n;
      case 7: for (int[] row : rows) if (row != null) n++; return n;
      case 8: for (byte[] text : texts) if (text != null) n++; return n;
      case 9: for (List<State> town : kept) if (town != null) n++; return n;
      default: return BAD;
    }
  }
  int miles() {
    upper = now().turn();
    lower = 1;
    return now().miles();
  }
  int findings(int f) { return in(f, 1, 5) ? findings[f] : BAD; }
  long digest() {
    List<Integer> all = new ArrayList<>();
    for (int what = 0; what <= 9; what++) all.add(count(what));
    all.add(now().miles());
    all.add(now().turn());
    for (int i = 0; i < lines.size(); i++) for (int what = 0; what <= 6; what++) all.add(trait(i, what));
    for (List<State> town : kept) all.add(town == null ? -1 : town.size() - 1);
    for (int[] row : rows) {
      all.add(row == null ? -1 : row.length);
      if (row != null) for (int v : row) all.add(v);
    }
    for (byte[] text : texts) {
      all.add(text == null ? -1 : text.length);
      if (text != null) for (byte v : text) all.add((int) v);
    }
    long h = 17;
    for (int v : all) h = 31 * h + v;
    return h;
  }
}
