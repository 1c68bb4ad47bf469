import java.io.IOException;
import java.util.List;

/** Each sentence of the document has a test that names it; the boundary cases above all. */
public final class EdgesTest {
    public static void main(String[] args) throws IOException {
        Document document = new Document();
        Checks checks = new Checks();
        List<Edges> groups = List.of(
            new ConventionEdges(document, checks), new EpisodeEdges(document, checks),
            new NoticeEdges(document, checks), new ListenerEdges(document, checks),
            new HearingEdges(document, checks), new WhatIfEdges(document, checks),
            new TextEdges(document, checks), new HistoryEdges(document, checks));
        for (Edges group : groups) {
            group.testAll();
            group.endOfSentence();
        }
        for (String sentence : document.untested()) {
            checks.holds("a test for " + sentence, false);
        }
        checks.finish();
    }
}
