import java.util.Arrays;

/** The boundary cases of promises 1 to 9: a new object, rows, texts. */
final class RowsEdges extends Edges {
  static void run() {
    newObject();
    row();
    lay();
    at();
    tear();
    copy();
    mean();
    text();
    put();
  }

  private static void newObject() {
    says(1, "No ROWS, TEXTS, LINES.");
    counts(fresh(), 0, 0, 0, 0, 0, 0, 0, 0, 0, 0);
    for (int r = 0; r <= 5; r++) {
      int row = r;
      found(Edges::fresh, NOTHING, x -> x.tear(row));
    }
    for (int t = 0; t <= 3; t++) {
      int text = t;
      found(Edges::fresh, NOTHING, x -> x.town(text));
    }
    bad(Edges::fresh, x -> x.line(0, 0));
    refused(Edges::fresh, STATE, x -> x.hour());
    due(fresh().wet(), 0);
    // What one object has another one has not.
    withRow(fresh(), 0, 7);
    found(Edges::fresh, NOTHING, x -> x.at(0, 0));
  }

  private static WashSails three() { return withRow(fresh(), 2, 7, -8, 9); }

  private static void row() {
    says(2, "A ROW is there with n ints 0: n.");
    for (int n : new int[] {0, 1, 2, 39, 40}) {
      WashSails x = fresh();
      due(x.row(5, n), n);
      due(x.count(7), 1);
      rowIs(x, 5, new int[n]);
    }
    WashSails x = three();
    due(x.row(2, 3), 3);
    rowIs(x, 2, 0, 0, 0);
    withRow(x, 2, 1, 2, 3, 4);
    due(x.row(2, 1), 1);
    rowIs(x, 2, 0);
    due(x.row(2, 5), 5);
    rowIs(x, 2, 0, 0, 0, 0, 0);
    due(x.count(7), 1);
    says(2, "BAD: also n above 40;");
    for (int n : new int[] {41, 42, MOST}) bad(RowsEdges::three, y -> y.row(2, n));
    for (int r : new int[] {-1, 6, LEAST, MOST}) bad(RowsEdges::three, y -> y.row(r, 3));
    says(2, "SIZE: below 0.");
    for (int n : new int[] {-1, -2, LEAST}) found(RowsEdges::three, SIZE, y -> y.row(2, n));
    found(Edges::fresh, SIZE, y -> y.row(0, -1));
    bad(Edges::fresh, y -> y.row(6, -1));
    bad(Edges::fresh, y -> y.row(-1, -1));
  }

  private static void lay() {
    says(3, "Place i of a ROW is v: what it was, told by asked(): 1.");
    WashSails x = three();
    asks(x, x.lay(2, 0, LEAST), 7);
    asks(x, x.lay(2, 2, MOST), 9);
    asks(x, x.lay(2, 0, 0), LEAST);
    asks(x, x.lay(2, 0, 5), 0);
    rowIs(x, 2, 5, -8, MOST);
    x.row(0, 40);
    asks(x, x.lay(0, 39, 3), 0);
    due(at(x, 0, 39), 3);
    says(3, "BAD; NOTHING; BEYOND.");
    for (int r : new int[] {-1, 6, LEAST, MOST}) bad(RowsEdges::three, y -> y.lay(r, 0, 1));
    bad(RowsEdges::three, y -> y.lay(6, 99, 1));
    found(RowsEdges::three, NOTHING, y -> y.lay(1, 0, 1));
    found(RowsEdges::three, NOTHING, y -> y.lay(1, 99, 1));
    found(RowsEdges::three, NOTHING, y -> y.lay(1, -1, 1));
    for (int i : new int[] {-1, 3, 39, 40, LEAST, MOST}) found(RowsEdges::three, BEYOND, y -> y.lay(2, i, 1));
    found(() -> withRow(fresh(), 2), BEYOND, y -> y.lay(2, 0, 1));
  }

  private static void at() {
    says(4, "Place i of a ROW, told by asked(): 1.");
    WashSails x = three();
    asks(x, x.at(2, 0), 7);
    asks(x, x.at(2, 1), -8);
    asks(x, x.at(2, 2), 9);
    asks(x, x.at(2, 2), 9);
    says(4, "BAD; NOTHING; BEYOND.");
    for (int r : new int[] {-1, 6, LEAST, MOST}) bad(RowsEdges::three, y -> y.at(r, 0));
    bad(RowsEdges::three, y -> y.at(6, 99));
    found(RowsEdges::three, NOTHING, y -> y.at(1, 0));
    found(RowsEdges::three, NOTHING, y -> y.at(1, 99));
    for (int i : new int[] {-1, 3, 39, 40, LEAST, MOST}) found(RowsEdges::three, BEYOND, y -> y.at(2, i));
    found(() -> withRow(fresh(), 2), BEYOND, y -> y.at(2, 0));
  }

  private static void tear() {
    says(5, "A ROW is missing: 1.");
    WashSails x = withRow(withRow(three(), 0), 5, 4);
    due(x.tear(2), 1);
    due(x.count(7), 2);
    due(x.tear(0), 1);
    due(x.tear(5), 1);
    due(x.count(7), 0);
    due(x.at(2, 0), FINDING);
    due(x.finding(), NOTHING);
    x.row(2, 3);
    rowIs(x, 2, 0, 0, 0);
    says(5, "BAD; NOTHING.");
    for (int r : new int[] {-1, 6, LEAST, MOST}) bad(RowsEdges::three, y -> y.tear(r));
    found(RowsEdges::three, NOTHING, y -> y.tear(0));
    found(RowsEdges::three, NOTHING, y -> y.tear(5));
    WashSails twice = three();
    twice.tear(2);
    found(() -> twice, NOTHING, y -> y.tear(2));
  }

  private static WashSails five() { return withRow(withRow(fresh(), 0, 1, 2, 3, 4, 5), 5, 6, 7, 8); }

  private static void copied(int r, int i, int to, int j, int n, int... want) {
    WashSails x = five();
    due(x.copy(r, i, to, j, n), 1);
    rowIs(x, to, want);
    if (r != to && r == 0) rowIs(x, 0, 1, 2, 3, 4, 5);
  }

  private static void copy() {
    says(6, "n places of a ROW, from one on, come to those of another one (perhaps itself) from one on, as if taken ahead: 1.");
    copied(0, 0, 5, 0, 3, 1, 2, 3);
    copied(0, 2, 5, 0, 3, 3, 4, 5);
    copied(0, 4, 5, 2, 1, 6, 7, 5);
    copied(5, 0, 0, 2, 3, 1, 2, 6, 7, 8);
    copied(0, 0, 0, 1, 4, 1, 1, 2, 3, 4);
    copied(0, 1, 0, 0, 4, 2, 3, 4, 5, 5);
    copied(0, 0, 0, 2, 3, 1, 2, 1, 2, 3);
    copied(0, 0, 0, 0, 5, 1, 2, 3, 4, 5);
    copied(0, 0, 5, 0, 0, 6, 7, 8);
    copied(0, 5, 5, 3, 0, 6, 7, 8);
    says(6, "BAD;");
    for (int r : new int[] {-1, 6, LEAST, MOST}) {
      bad(RowsEdges::five, x -> x.copy(r, 0, 0, 0, 1));
      bad(RowsEdges::five, x -> x.copy(0, 0, r, 0, 1));
      bad(RowsEdges::five, x -> x.copy(0, 0, r, 0, -1));
      bad(RowsEdges::five, x -> x.copy(1, 0, r, 9, 9));
    }
    says(6, "SIZE: n below 0;");
    for (int n : new int[] {-1, LEAST}) {
      found(RowsEdges::five, SIZE, x -> x.copy(0, 0, 5, 0, n));
      found(RowsEdges::five, SIZE, x -> x.copy(1, 0, 5, 0, n));
      found(RowsEdges::five, SIZE, x -> x.copy(0, 99, 2, -1, n));
    }
    says(6, "NOTHING: either;");
    found(RowsEdges::five, NOTHING, x -> x.copy(1, 0, 0, 0, 1));
    found(RowsEdges::five, NOTHING, x -> x.copy(0, 0, 1, 0, 1));
    found(RowsEdges::five, NOTHING, x -> x.copy(1, 0, 2, 0, 0));
    found(RowsEdges::five, NOTHING, x -> x.copy(1, 0, 1, 0, 0));
    found(RowsEdges::five, NOTHING, x -> x.copy(0, 9, 1, 0, 1));
    found(RowsEdges::five, NOTHING, x -> x.copy(1, -1, 0, 99, 1));
    says(6, "BEYOND: not so many there.");
    found(RowsEdges::five, BEYOND, x -> x.copy(0, 0, 5, 0, 4));
    found(RowsEdges::five, BEYOND, x -> x.copy(5, 0, 0, 0, 4));
    found(RowsEdges::five, BEYOND, x -> x.copy(0, 0, 5, 1, 3));
    found(RowsEdges::five, BEYOND, x -> x.copy(0, 3, 5, 0, 3));
    found(RowsEdges::five, BEYOND, x -> x.copy(0, 5, 5, 0, 1));
    found(RowsEdges::five, BEYOND, x -> x.copy(0, -1, 5, 0, 1));
    found(RowsEdges::five, BEYOND, x -> x.copy(0, 0, 5, -1, 1));
    found(RowsEdges::five, BEYOND, x -> x.copy(0, 6, 5, 0, 0));
    found(RowsEdges::five, BEYOND, x -> x.copy(0, 0, 5, 4, 0));
    found(RowsEdges::five, BEYOND, x -> x.copy(0, 1, 0, 0, 5));
    found(RowsEdges::five, BEYOND, x -> x.copy(0, 1, 5, 1, MOST));
    found(RowsEdges::five, BEYOND, x -> x.copy(0, MOST, 5, 0, MOST));
    found(RowsEdges::five, BEYOND, x -> x.copy(0, 0, 5, MOST, 1));
    found(RowsEdges::five, BEYOND, x -> x.copy(0, LEAST, 5, LEAST, 1));
  }

  private static void meanIs(int want, int... values) {
    WashSails x = withRow(fresh(), 3, values);
    asks(x, x.mean(3), want);
  }

  private static void mean() {
    says(7, "The mean of a ROW's ints, cut, told by asked(): 1.");
    meanIs(7, 7);
    meanIs(3, 3, 4);
    meanIs(-3, -3, -4);
    meanIs(0, -1, 0);
    meanIs(0, 1, 0);
    meanIs(2, 2, 3, 3);
    meanIs(LEAST, LEAST);
    meanIs(0, LEAST, MOST);
    int[] most = new int[40];
    Arrays.fill(most, MOST);
    meanIs(MOST, most);
    Arrays.fill(most, LEAST);
    meanIs(LEAST, most);
    says(7, "BAD; NOTHING; NOUGHT.");
    for (int r : new int[] {-1, 6, LEAST, MOST}) bad(RowsEdges::three, x -> x.mean(r));
    found(RowsEdges::three, NOTHING, x -> x.mean(3));
    found(() -> withRow(three(), 3), NOUGHT, x -> x.mean(3));
  }

  private static void text() {
    says(8, "A TEXT is there with n blanks: n.");
    for (int n : new int[] {0, 1, 59, 60}) {
      WashSails x = fresh();
      due(x.text(3, n), n);
      due(x.count(8), 1);
      for (int i = 0; i < n; i++) due(x.put(3, i, 7), 1032);
      due(x.put(3, n, 7), FINDING);
      due(x.text(3, n), n);
      for (int i = 0; i < n; i++) due(x.put(3, i, 7), 1032);
    }
    WashSails x = withText("w1l010");
    x.text(1, 2);
    x.text(1, 6);
    due(x.fault(1), 6);
    due(x.count(8), 1);
    says(8, "BAD: also n above 60;");
    for (int n : new int[] {61, MOST}) bad(() -> withText("w1"), y -> y.text(1, n));
    for (int t : new int[] {-1, 4, LEAST, MOST}) bad(Edges::fresh, y -> y.text(t, 3));
    says(8, "SIZE: below 0.");
    for (int n : new int[] {-1, LEAST}) found(() -> withText("w1"), SIZE, y -> y.text(1, n));
    found(Edges::fresh, SIZE, y -> y.text(0, -1));
    bad(Edges::fresh, y -> y.text(4, -1));
  }

  private static void put() {
    says(9, "Byte i of a TEXT is v, cut to a byte: what it was, and 1000 more.");
    WashSails x = fresh();
    x.text(0, 2);
    int[] values = {0, 1, 127, 128, 255, 256, 257, 300, -1, -128, -129, -256, LEAST, MOST, 65};
    int[] bytes = {0, 1, 127, -128, -1, 0, 1, 44, -1, -128, 127, 0, 0, -1, 65};
    int was = 32;
    for (int k = 0; k < values.length; k++) {
      due(x.put(0, 1, values[k]), 1000 + was);
      was = bytes[k];
    }
    due(x.put(0, 1, 0), 1065);
    due(x.put(0, 0, 0), 1032);
    due(x.asked(), 0);
    says(9, "BAD; NOTHING; BEYOND.");
    for (int t : new int[] {-1, 4, LEAST, MOST}) bad(() -> withText("w1"), y -> y.put(t, 0, 1));
    bad(() -> withText("w1"), y -> y.put(4, 99, 1));
    found(() -> withText("w1"), NOTHING, y -> y.put(0, 0, 1));
    found(() -> withText("w1"), NOTHING, y -> y.put(0, 99, 1));
    for (int i : new int[] {-1, 2, 59, 60, LEAST, MOST}) found(() -> withText("w1"), BEYOND, y -> y.put(1, i, 1));
    found(() -> withText(""), BEYOND, y -> y.put(1, 0, 1));
  }
}
