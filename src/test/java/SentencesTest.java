import java.io.IOException;

/** Every sentence of Terms and of promises 1 to 23, named, with the cases at its edges. */
public final class SentencesTest {
    public static void main(String[] args) throws IOException {
        Due due = new Due("SentencesTest");
        Sentences sentences = new Sentences(due);
        new SentencesOfTerms(sentences).all();
        new SentencesOfMeeting(sentences).all();
        new SentencesOfChanges(sentences).all();
        new SentencesOfQuestions(sentences).all();
        new SentencesOfRunning(sentences).all();
        sentences.allAreNamed();
        due.end();
    }
}
