import java.nio.file.Files;
import java.nio.file.Path;

/** Each sentence of the document beside the tests of its edges; fails, too, for words with no test beside them. */
public final class EdgeTest {
  private static final String DOCUMENT = "../shared/DOC.md";

  private EdgeTest() {}

  public static void main(String[] args) throws Exception {
    Ledger ledger = new Ledger(Files.readString(Path.of(DOCUMENT)));
    Edges[] all = {
      new TermEdges(ledger), new TextEdges(ledger), new QuestionEdges(ledger), new KeptEdges(ledger), new PromiseEdges(ledger)
    };
    for (Edges edges : all) {
      edges.run();
    }
    ledger.end();
  }
}
