import java.io.IOException;
import java.nio.file.Path;

/** The sentences of the document that name a boundary case, each with a test of its own. */
public final class SentencesTest {
    public static void main(String[] args) throws IOException {
        testAll();
        Check.end("SentencesTest");
    }

    static void testAll() throws IOException {
        Sentences sentences = new Sentences(Path.of("../shared/DOC.md"));
        TrainSentences.test(sentences);
        GoingSentences.test(sentences);
        CorrectionsSentences.test(sentences);
        DatesSentences.test(sentences);
        StrikesSentences.test(sentences);
        DrumsSentences.test(sentences);
        LogSentences.test(sentences);
        ExceptionsSentences.test(sentences);
        sentences.allAreTested();
    }
}
