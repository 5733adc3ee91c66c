/**
 * The document's sentences, one after the other, in its own words: each that names a limit with the last value that it lets in and the
 * first that it doesn't, each that names a finding with calls that get it and change nothing but status(). What fails is printed with the
 * promise's number and the sentence. At the end every sentence under "Terms" and under each promise has been quoted.
 */
public final class EdgesTest {
    public static void main(String[] args) {
        Edges e = new Edges();
        EdgesOfTerms.ask(e);
        EdgesOfMarks.ask(e);
        EdgesOfHoursInksPapers.ask(e);
        EdgesOfMeanings.ask(e);
        EdgesOfInksAndCopies.ask(e);
        EdgesOfForging.ask(e);
        EdgesOfTexts.ask(e);
        EdgesOfSpotsSheets.ask(e);
        EdgesOfImages.ask(e);
        e.end();
    }
}
