import java.io.IOException;

/** The boundary cases of the document, sentence by sentence: each *Edges class has the sentences of some promises. */
public final class EdgesTest {
    public static void main(String[] args) throws IOException {
        OrderEdges.run();
        SystemEdges.run();
        ReductionEdges.run();
        PeakEdges.run();
        LabellingEdges.run();
        RewritingEdges.run();
        ArrayEdges.run();
        DescriptionEdges.run();
        Edge.checkQuotes();
        Script.finish();
    }
}
