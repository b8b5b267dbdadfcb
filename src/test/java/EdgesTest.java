/** Each sentence of the document that names an edge has a test of its own, by whose message it can be found. */
public final class EdgesTest {
    public static void main(String[] args) {
        EdgesOfTerms.run();
        EdgesOfRows.run();
        EdgesOfWalls.run();
        EdgesOfDeeds.run();
        EdgesOfShows.run();
        EdgesOfKinds.run();
        EdgesOfChances.run();
        EdgesOfTold.run();
        Edge.allIsQuoted();
        Due.end();
    }
}
