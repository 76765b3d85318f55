import java.io.IOException;

/** For each sentence of the document that names a boundary, a test of its own at this boundary. */
public final class EdgesTest {
    private EdgesTest() {
    }

    public static void main(String[] args) throws IOException {
        EdgesOfTerms.test();
        EdgesOfTicks.test();
        EdgesOfWavesAndTrucks.test();
        EdgesOfPromises1To8.test();
        EdgesOfPromises9To18.test();
        EdgesOfPromises19To25.test();
        EdgesOfPromises26To37.test();
        Sentences.check();
        Checks.end("EdgesTest");
    }
}
