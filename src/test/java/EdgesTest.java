import java.io.IOException;

/** The document sentence by sentence: the last that is taken, the first that is refused, what is empty, what is full. */
public final class EdgesTest {
    private EdgesTest() {
    }

    public static void main(String[] args) throws IOException {
        Sentences s = new Sentences();
        EdgesOfTerms.hold(s);
        EdgesOfRows.hold(s);
        EdgesOfTexts.hold(s);
        EdgesOfPieces.hold(s);
        EdgesOfPlaying.hold(s);
        EdgesOfBelief.hold(s);
        EdgesOfTelling.hold(s);
        EdgesOfGathering.hold(s);
        EdgesOfStopping.hold(s);
        EdgesOfWhatIsTold.hold(s);
        s.end();
    }
}
