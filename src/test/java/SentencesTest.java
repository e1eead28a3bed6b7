/**
 * Each sentence of the document that stands before the promises or in one has a test that names it;
 * what the document says of a boundary is held to on both sides of it.
 */
public final class SentencesTest {
    public static void main(String[] args) {
        Sentences sentences = new Sentences();
        new TermsSentences(sentences).all();
        new TickSentences(sentences).all();
        new FigureSentences(sentences).all();
        new ToldSentences(sentences).all();
        new DoneSentences(sentences).all();
        new AskedSentences(sentences).all();
        new WouldBeSentences(sentences).all();
        sentences.end();
    }
}
