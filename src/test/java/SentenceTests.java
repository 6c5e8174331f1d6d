/**
 * Each sentence of the document's first part, terms and promises, with a test of its own. With an argument those
 * alone that are of this section, or whose words hold it.
 */
public final class SentenceTests {
    public static void main(String[] args) throws Exception {
        Sentences sentences = new Sentences(args.length > 0 ? args[0] : null);
        WholeSentences.all(sentences);
        TermSentences.all(sentences);
        WriteSentences.all(sentences);
        ReadSentences.all(sentences);
        CrashSentences.all(sentences);
        sentences.compareWithDocument();
        if (sentences.tests() == 0) Checks.fault("no test is of what was asked for");
        System.out.println(Checks.wrong() == 0 ? sentences.tests() + " tests of sentences: all answers are as due"
            : Checks.wrong() + " answers are not as due");
        if (Checks.wrong() != 0) System.exit(1);
    }
}
