/** Runs what is due at each edge that the document names, promise by promise. */
public final class EdgeTests extends Edges {
    private EdgeTests() {
    }

    public static void main(String[] args) {
        TextEdges.run();
        StepEdges.run();
        WayEdges.run();
        PastEdges.run();
        AskEdges.run();
        int without = promiseWithout();
        if (without > 0) {
            wrong++;
            System.out.println("promise " + without + " has no sentence here");
        }
        System.out.println(sentences + " sentences with " + cases + " cases, " + wrong + " not as due");
        if (wrong > 0) {
            System.exit(1);
        }
    }
}
