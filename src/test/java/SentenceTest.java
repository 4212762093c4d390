import java.io.IOException;

/** The document sentence by sentence, each with the checks that would fail if it were broken. */
public final class SentenceTest {
    private SentenceTest() {
    }

    public static void main(String[] args) throws IOException {
        Doc.read();
        FieldSentences.check();
        FightSentences.check();
        TextSentences.check();
        UndoSentences.check();
        CallSentences.check();
        LineSentences.check();
        Doc.finish();
        Check.finish("SentenceTest");
    }
}
