/** Each sentence of the document's terms and promises, with a test of its own. */
public final class SentenceTests {
    public static void main(String[] args) throws Exception {
        Sentences sentences = new Sentences();
        TermSentences.all(sentences);
        WriteSentences.all(sentences);
        ReadSentences.all(sentences);
        CrashSentences.all(sentences);
        sentences.compareWithDocument();
        System.out.println(Checks.wrong() == 0 ? sentences.tests() + " tests of sentences: all answers are as due"
            : Checks.wrong() + " answers are not as due");
        if (Checks.wrong() != 0) System.exit(1);
    }
}
