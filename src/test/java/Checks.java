/** Counts answers that are not as due, and makes towns of texts. */
final class Checks {
  static int wrong = 0;
  static int made = 0;

  static void due(String what, long got, long want) {
    made++;
    if (got != want) {
      wrong++;
      if (wrong <= 40) System.out.println(what + " answered " + got + ", due is " + want);
    }
  }

  static void write(WashSails x, int t, String text) {
    due("text " + t, x.text(t, text.length()), text.length());
    for (int i = 0; i < text.length(); i++) {
      if (text.charAt(i) != ' ') x.put(t, i, text.charAt(i));
    }
  }

  static WashSails town(String text) {
    WashSails x = new WashSails();
    write(x, 0, text);
    if (x.town(0) < 1) due("a town of '" + text + "'", x.fault(0), WashSails.NONE);
    return x;
  }

  static void lay(WashSails x, int r, int... values) {
    x.row(r, values.length);
    for (int i = 0; i < values.length; i++) x.lay(r, i, values[i]);
  }

  static void told(WashSails x, String what, long asked, long upper, long lower) {
    due(what + ": asked", x.asked(), asked);
    share(x, what, upper, lower);
  }

  static void share(WashSails x, String what, long upper, long lower) {
    due(what + ": upper", x.upper(), upper);
    due(what + ": lower", x.lower(), lower);
  }

  /** The call before was refused with this finding. */
  static void finding(WashSails x, String what, long got, int f) {
    due(what, got, WashSails.FINDING);
    due(what + ": finding", x.finding(), f);
  }

  static void end(String name) {
    System.out.println(name + ": " + made + " answers looked at, " + wrong + " not as due");
    if (wrong != 0 || made == 0) System.exit(1);
  }
}
