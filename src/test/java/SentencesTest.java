/** A test for each sentence of the document that names an edge; no words of it are left without one. */
public final class SentencesTest {
    public static void main(String[] args) {
        Sentences sentences = new Sentences();
        new FaceEdges(sentences).play();
        new TermsEdges(sentences).play();
        new ActEdges(sentences).play();
        new VoteEdges(sentences).play();
        new MachineEdges(sentences).play();
        new TransactionEdges(sentences).play();
        new WholeEdges(sentences).play();
        sentences.end();
    }
}
