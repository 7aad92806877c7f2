/**
 * A test for each sentence of "Terms" and of the promises, with the boundary cases that it names: the
 * last inputs that are taken, the first that are refused, and that what is refused changes nothing.
 */
final class SentencesTest {
    public static void main(String[] args) {
        Sentences sentences = new Sentences();
        new TermsBounds(sentences).run();
        new ReadingBounds(sentences).run();
        new PromiseBounds(sentences).run();
        sentences.finish();
    }
}
