import java.io.IOException;

/** The document again, sentence by sentence: each has a test of its own, with its least, greatest, empty and full cases. */
public final class EdgesTest {
    private EdgesTest() {
    }

    public static void main(String[] args) throws IOException {
        Due due = new Due("EdgesTest");
        Sentences sentences = new Sentences(due);
        new EdgesOfTerms(sentences).all();
        new EdgesOfShapes(sentences).all();
        new EdgesOfReading(sentences).all();
        new EdgesOfServices(sentences).all();
        new EdgesOfTicks(sentences).all();
        new EdgesOfPromises1(sentences).all();
        new EdgesOfPromises2(sentences).all();
        new EdgesOfPromises3(sentences).all();
        sentences.allAreTested();
        due.end();
    }
}
