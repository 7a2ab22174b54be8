import java.nio.file.Path;

/** A test for each sentence of the document, named after its words; words without one are told as a fault. */
public final class EdgeTest {
  public static void main(String[] args) throws Exception {
    Doc doc = new Doc(Path.of("../shared/DOC.md"));
    Edges.open(doc);
    TermsEdges.run();
    RowsEdges.run();
    TownEdges.run();
    GoesEdges.run();
    GuessEdges.run();
    ToldEdges.run();
    Edges.close();
    for (int part : doc.numbers()) {
      String rest = doc.unsaid(part);
      if (!rest.isEmpty()) Checks.due("no test is named after these words of part " + part + ": '" + rest + "'", 0, 1);
    }
    Checks.end("EdgeTest");
  }
}
