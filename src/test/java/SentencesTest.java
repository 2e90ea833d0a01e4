/**
 * The document, sentence by sentence: each has a test of its own, above all those that name a limit (too small, too large,
 * empty, full, round again, refused). In the end no word under "Terms" or of a promise may be without one.
 */
public final class SentencesTest {
    public static void main(String[] args) throws Exception {
        Check check = new Check("SentencesTest");
        Doc doc = new Doc(check);
        Sentences[] parts = {
            new TermSentences(doc, check), new TextSentences(doc, check), new LookSentences(doc, check),
            new DealSentences(doc, check), new CallSentences(doc, check)};
        for (Sentences part : parts) {
            part.all();
            part.ended();
        }
        doc.finish();
        check.finish();
    }
}
