import java.io.IOException;

/**
 * Each sentence of the document that names a boundary case, with the values just inside and just outside
 * of it, and the refused calls, which must change nothing. No sentence is forgotten: what is quoted
 * nowhere in the tests of the edges is told in the end.
 */
public final class EdgesTest {
    public static void main(String[] args) throws IOException {
        Sentences.read();
        Twins.busyIsBusy();
        EdgesOfParts.run();
        EdgesOfMinute.run();
        EdgesOfTexts.run();
        EdgesOfUndo.run();
        EdgesByHand.run();
        EdgesOfRounds.run();
        EdgesOfWhatThereIs.run();
        EdgesOfWouldBe.run();
        Sentences.allAreTakenUp();
        Check.end();
    }
}
