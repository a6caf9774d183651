import java.io.IOException;

/** Each sentence of the document that names a boundary case, by a test of its own. */
public final class EdgeTest {
    private EdgeTest() {
    }

    public static void main(String[] args) throws IOException {
        Checks checks = new Checks();
        Document document = new Document();
        int[] tested = new int[Document.PROMISES + 1];
        Edges[] all = {new TellingEdges(checks, document, tested), new TextEdges(checks, document, tested),
            new TickEdges(checks, document, tested), new TentEdges(checks, document, tested),
            new HelpEdges(checks, document, tested), new TimeEdges(checks, document, tested),
            new RefusalEdges(checks, document, tested)};
        for (Edges edges : all) {
            edges.testAll();
        }
        int sum = 0;
        for (int part = 0; part < tested.length; part++) {
            checks.yes("promise " + part + " has a test", tested[part] > 0);
            sum += tested[part];
        }
        System.out.println(sum + " sentences have a test of their own");
        checks.finish("EdgeTest");
    }
}
