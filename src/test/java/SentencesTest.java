/** Each sentence of the document has a test that quotes it; see Sentences. */
public final class SentencesTest {
    public static void main(String[] args) {
        DescriptionCases.run();
        FormulaCases.run();
        ChangeCases.run();
        RoundCases.run();
        QuestionCases.run();
        CouldBeCases.run();
        ImageCases.run();
        Sentences.compareWithDocument();
        Checks.finish("SentencesTest");
    }
}
