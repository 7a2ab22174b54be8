import java.util.Random;

/** Random runs of calls (always the same ones) on the class and on the model beside it. */
public final class ModelTest {
  private static final int RUNS = 6000, CALLS = 60, KINDS_OF_CALLS = 42;
  private static final int[] EDGES = {Integer.MIN_VALUE, -1000, -999, -100, -99, -2, -1, 0, 1, 2, 3, 4, 5, 6, 7, 12, 13,
      20, 21, 40, 41, 60, 61, 64, 99, 100, 999, 1000, Integer.MAX_VALUE - 1, Integer.MAX_VALUE};

  private final Random random;
  private final WashSails x = new WashSails();
  private final Model m = new Model();
  private final StringBuilder said = new StringBuilder();
  private static final int[] ANSWERED = new int[KINDS_OF_CALLS];

  private ModelTest(long seed) { random = new Random(seed); }

  /** Mostly a number of the range, now and then one at or beyond an edge of some range. */
  private int some(int low, int high) {
    int chance = random.nextInt(40);
    if (chance == 0) return EDGES[random.nextInt(EDGES.length)];
    if (chance == 1) return low - 1;
    if (chance == 2) return high + 1;
    return low + random.nextInt(high - low + 1);
  }

  private String townText() {
    StringBuilder s = new StringBuilder();
    blanks(s);
    s.append('w');
    int hours = random.nextInt(20) == 0 ? 9 : 1 + random.nextInt(8);
    for (int k = 0; k < hours; k++) s.append((char) ('0' + random.nextInt(6)));
    int lines = random.nextInt(20) == 0 ? 7 : 1 + random.nextInt(6);
    for (int k = 0; k < lines; k++) {
      blanks(s);
      s.append("lsbkop".charAt(random.nextInt(6)));
      s.append((char) ('0' + random.nextInt(9)));
      s.append((char) ('1' + random.nextInt(9)));
      s.append((char) ('0' + random.nextInt(10)));
    }
    blanks(s);
    if (random.nextInt(5) == 0) s.setCharAt(random.nextInt(s.length()), "wlsbkop0123456789 x".charAt(random.nextInt(19)));
    if (random.nextInt(12) == 0) s.setLength(random.nextInt(s.length() + 1));
    if (s.length() > 60) s.setLength(60);
    return s.toString();
  }

  private void blanks(StringBuilder s) {
    if (random.nextInt(3) == 0) s.append("   ", 0, 1 + random.nextInt(3));
  }

  private void same(String call, long got, long want) {
    said.append(call).append(" -> ").append(want).append('\n');
    Checks.made++;
    if (got == want) return;
    Checks.wrong++;
    if (Checks.wrong == 1) System.out.println(said + "the last one answered " + got);
  }

  private void writeTown(int t) {
    String text = townText();
    same("text " + t + " " + text.length(), x.text(t, text.length()), m.text(t, text.length()));
    for (int i = 0; i < text.length(); i++) {
      if (text.charAt(i) != ' ') same("put " + i, x.put(t, i, text.charAt(i)), m.put(t, i, text.charAt(i)));
    }
    same("fault of '" + text + "'", x.fault(t), m.fault(t));
    same("town " + text, x.town(t), m.town(t));
  }

  /** A row that is a plan, or pairs of winds and pulls, or neither. */
  private void fillRow() {
    int r = random.nextInt(6);
    boolean pairs = random.nextInt(3) == 0;
    int n = pairs ? 2 * random.nextInt(4) : random.nextInt(7);
    if (random.nextInt(15) == 0) n = random.nextInt(26);
    same("row " + r + " " + n, x.row(r, n), m.row(r, n));
    int lines = m.count(0);
    int kind = random.nextInt(6);
    int area = 1 + random.nextInt(9);
    if (lines > 0 && random.nextBoolean()) area = m.lines.get(random.nextInt(lines)).area;
    Model.Line line = Model.make(kind);
    line.area = area;
    int wind = 0;
    for (int i = 0; i < n; i++) {
      int v = some(0, (1 << lines) - 1);
      if (pairs && i % 2 == 0) v = wind = some(0, 6);
      else if (pairs) v = random.nextInt(12) == 0 ? some(-9, 9) : line.pull(wind);
      same("lay " + r + " " + i + " " + v, x.lay(r, i, v), m.lay(r, i, v));
    }
  }

  private void call(int which) {
    int a, b, c, d, e;
    switch (which) {
      case 0: a = some(0, 5); b = some(0, 40); same("row " + a + " " + b, x.row(a, b), m.row(a, b)); break;
      case 1: a = some(0, 5); b = some(0, 6); c = some(0, 63); same("lay " + a + " " + b + " " + c, x.lay(a, b, c), m.lay(a, b, c)); break;
      case 2: a = some(0, 5); b = some(0, 6); same("at " + a + " " + b, x.at(a, b), m.at(a, b)); break;
      case 3: a = some(0, 5); same("tear " + a, x.tear(a), m.tear(a)); break;
      case 4: a = some(0, 5); b = some(0, 4); c = some(0, 5); d = some(0, 4); e = some(0, 4);
        same("copy " + a + " " + b + " " + c + " " + d + " " + e, x.copy(a, b, c, d, e), m.copy(a, b, c, d, e)); break;
      case 5: a = some(0, 5); same("mean " + a, x.mean(a), m.mean(a)); break;
      case 6: a = some(1, 3); b = some(0, 60); same("text " + a + " " + b, x.text(a, b), m.text(a, b)); break;
      case 7: a = some(1, 3); b = some(0, 20); c = some(-300, 300); same("put " + a + " " + b + " " + c, x.put(a, b, c), m.put(a, b, c)); break;
      case 8: a = some(0, 3); same("fault " + a, x.fault(a), m.fault(a)); break;
      case 9: a = some(0, 9) > 7 ? some(0, 3) : 4; same("town " + a, x.town(a), m.town(a)); break;
      case 10: a = some(0, 5); b = some(0, 6); same("line " + a + " " + b, x.line(a, b), m.line(a, b)); break;
      case 11: a = some(0, 5); b = some(1, 5); same("mark " + a + " " + b, x.mark(a, b), m.mark(a, b)); break;
      case 12: a = some(0, 999); same("wind " + a, x.wind(a), m.wind(a)); break;
      case 13: case 14: a = some(0, 5); same("hang " + a, x.hang(a), m.hang(a)); break;
      case 15: a = some(0, 5); same("take " + a, x.take(a), m.take(a)); break;
      case 16: case 17: same("hour", x.hour(), m.hour()); break;
      case 18: a = random.nextInt(3) == 0 ? some(0, 40) : m.count(2) - random.nextInt(4); same("undo " + a, x.undo(a), m.undo(a)); break;
      case 19: a = some(0, 2); same("keep " + a, x.keep(a), m.keep(a)); break;
      case 20: a = some(0, 2); same("on " + a, x.on(a), m.on(a)); break;
      case 21: a = some(0, (1 << m.count(0)) - 1); same("goes " + a, x.goes(a), m.goes(a)); break;
      case 22: a = some(-9, 20); same("even " + a, x.even(a), m.even(a)); break;
      case 23: a = some(0, 30); same("fast " + a, x.fast(a), m.fast(a)); break;
      case 24: same("wet", x.wet(), m.wet()); break;
      case 25: a = some(0, 5); same("sail " + a, x.sail(a), m.sail(a)); break;
      case 26: a = some(0, 5); same("dry " + a, x.dry(a), m.dry(a)); break;
      case 27: a = some(0, 3); b = random.nextBoolean() ? some(0, 999) : some(0, 40); c = some(0, 5);
        same("far " + a + " " + b + " " + c, x.far(a, b, c), m.far(a, b, c)); break;
      case 28: a = m.milesNow() + some(-20, 150); same("soon " + a, x.soon(a), m.soon(a)); break;
      case 29: a = some(0, 3); b = m.milesNow() + some(-20, 100); same("least " + a + " " + b, x.least(a, b), m.least(a, b)); break;
      case 30: a = some(-9, 20); b = some(-40, 40); same("ways " + a + " " + b, x.ways(a, b), m.ways(a, b)); break;
      case 31: a = some(0, 5); b = some(0, 5); same("kinds " + a + " " + b, x.kinds(a, b), m.kinds(a, b)); break;
      case 32: a = some(0, 5); b = some(0, 5); same("areas " + a + " " + b, x.areas(a, b), m.areas(a, b)); break;
      case 33: a = some(0, 2); same("rival " + a, x.rival(a), m.rival(a)); break;
      case 34: a = some(0, 5); b = some(0, 12); same("mid " + a + " " + b, x.mid(a, b), m.mid(a, b)); break;
      case 35: a = some(0, 5); b = m.milesNow() + some(-20, 100); c = some(0, 12);
        same("odds " + a + " " + b + " " + c, x.odds(a, b, c), m.odds(a, b, c)); break;
      case 36: a = random.nextInt(4) == 0 ? some(1, 20) : some(1, 4); b = some(1, 2147483645);
        same("lots " + a + " " + b, x.lots(a, b), m.lots(a, b)); break;
      case 37: a = some(0, 9); same("count " + a, x.count(a), m.count(a)); break;
      case 38: same("miles", x.miles(), m.miles()); break;
      case 39: a = some(1, 5); same("findings " + a, x.findings(a), m.findings(a)); break;
      default: fillRow();
    }
  }

  private void run(int which) {
    if (which % 25 != 0) writeTown(0);
    for (int n = 0; n < CALLS; n++) {
      int call = random.nextInt(KINDS_OF_CALLS);
      call(call);
      ANSWERED[call]++;
      same("asked", x.asked(), m.asked);
      same("upper", x.upper(), m.upper);
      same("lower", x.lower(), m.lower);
      same("finding", x.finding(), m.finding);
      same("digest", x.digest(), m.digest());
    }
  }

  public static void main(String[] args) {
    int runs = args.length > 0 ? Integer.parseInt(args[0]) : RUNS;
    long first = args.length > 1 ? Long.parseLong(args[1]) : 1;
    for (int n = 0; n < runs; n++) new ModelTest(first + n).run(n);
    for (int call = 0; call < KINDS_OF_CALLS; call++) {
      if (runs >= RUNS && ANSWERED[call] < RUNS / 10) Checks.due("calls of kind " + call, ANSWERED[call], RUNS);
    }
    Checks.end("ModelTest");
  }
}
