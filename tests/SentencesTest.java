/** Each sentence of the document, its boundary cases above all, with calls of its own; and that none is left out. */
public final class SentencesTest {
    public static void main(String[] args) {
        EdgesOfLand.run();
        EdgesOfLaw.run();
        EdgesOfSaid.run();
        EdgesOfThought.run();
        EdgesOfSeen.run();
        EdgesOfDeed.run();
        EdgesOfWords.run();
        EdgesOfShelves.run();
        EdgesOfAnswers.run();
        Doc.everySentenceIsQuoted();
        Due.close();
    }
}
