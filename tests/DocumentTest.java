/** Each sentence of the document has its test: tests/sentences has them in the document's order of promises. */
public final class DocumentTest {
    public static void main(String[] args) {
        WindsSentences.check();
        BallotsSentences.check();
        RoundsSentences.check();
        PairsSentences.check();
        SeatsSentences.check();
        LinesSentences.check();
        TextSentences.check();
        UndoSentences.check();
        ExceptionsSentences.check();
        Document.isWholeDocument();
        Due.finish();
    }
}
