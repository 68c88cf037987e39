/** Each sentence of the document's Terms and Promises by its own words; the answers due were worked out by hand. */
public final class SentenceTests {
    private SentenceTests() {
    }

    public static void main(String[] args) {
        Sentences s = new Sentences();
        new PageSentences(s).test();
        new PatternSentences(s).test();
        new GridSentences(s).test();
        new PictureSentences(s).test();
        new WritingSentences(s).test();
        new ReadingSentences(s).test();
        new ThrowSentences(s).test();
        s.end();
    }
}
