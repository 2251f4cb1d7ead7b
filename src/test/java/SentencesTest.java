/** Each sentence of the document by a test of its own; in the end no sentence may be left over. */
public final class SentencesTest {
    private SentencesTest() {
    }

    public static void main(String[] args) {
        TextSentences.all();
        VisitSentences.all();
        DeedSentences.all();
        RowSentences.all();
        FoundSentences.all();
        TurnSentences.all();
        TraySentences.all();
        RefusedSentences.all();
        Sentence.allQuoted();
        Checks.end();
    }
}
