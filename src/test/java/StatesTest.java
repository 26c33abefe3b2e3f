/** What the states are said to be, so that the tests that begin with them may rely on it. */
final class StatesTest {
    public static void main(String[] args) {
        working();
        full();
        pantry();
        Check.end("StatesTest");
    }

    private static void working() {
        SapNetwork x = States.working();
        Check.due("nodes", x.nodes(), 5);
        Check.due("hours", x.hours(), 4);
        Check.due("sap", x.totalSap(), 49L);
        Check.due("first tank", x.tankVolume(0), 12);
        Check.due("first tank's sugar", x.tankSugar(0), 28);
        Check.due("second tank", x.tankVolume(1), 4);
        Check.due("second tank's sugar", x.tankSugar(1), 10);
        Check.due("pan", x.panVolume(), 3);
        Check.due("pan's sugar", x.panSugar(), 18);
        Check.due("raw", x.isReady(), false);
        Check.due("batch", x.batchVolume(0), 1);
        Check.due("steam", x.steam(), 9L);
        Check.due("loss", x.loss(), 20L);
        Check.due("lost sugar", x.lostSugar(), 48L);
    }

    private static void full() {
        Check.due("all nodes", States.fullOfNodes().nodes(), 20);
        Check.due("all nodes in a chain", States.deepest().nodes(), 20);
        Check.due("all hours", States.fullOfHours().hours(), 200);
        Check.due("the fourth tank", States.fullOfTanks().tankVolume(3), 0);
        Check.due("all batches", States.fullOfBatches().batches(), 30);
        Check.due("an empty pan", States.fullOfBatches().panVolume(), 0);
    }

    private static void pantry() {
        SapNetwork x = States.pantry();
        Check.due("first tank", x.tankVolume(0), 595);
        Check.due("first tank's sugar", x.tankSugar(0), 3570);
        Check.due("second tank", x.tankVolume(1), 119);
        Check.due("second tank's sugar", x.tankSugar(1), 119);
        Check.due("loss", x.loss(), 0L);
        Check.due("hours", x.hours(), 4);
        Check.due("in a frost", x.pass(-1), 0);
        SapNetwork pan = States.pan(9, 5);
        Check.due("pan", pan.panVolume(), 14);
        Check.due("pan's sugar", pan.panSugar(), 59);
    }
}
