/** A test of its own for each sentence of the document; no words of it are left without one. */
public final class SentenceTest {
    public static void main(String[] args) throws Exception {
        Sentences sentences = new Sentences();
        Edges[] groups = {
            new TermEdges(sentences), new MakeEdges(sentences), new FormEdges(sentences), new ProofEdges(sentences),
            new LeastEdges(sentences), new HookEdges(sentences), new StateEdges(sentences),
        };
        for (Edges group : groups) group.all();
        if (!sentences.end()) System.exit(1);
    }
}
