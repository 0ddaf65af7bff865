/** All promises, sentence by sentence: each that names an edge has a test of its own, which tells its words. */
public final class EdgesTest {
    public static void main(String[] args) {
        StackEdges.run();
        GameEdges.run();
        MarketEdges.run();
        BalanceEdges.run();
        InspectionEdges.run();
        DiagnosisEdges.run();
        ActsEdges.run();
        Doc.allPromisesWereTold();
        if (args.length > 0) {
            Doc.showTheRest();
        }
        Due.close();
    }
}
