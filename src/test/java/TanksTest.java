/** Promises 19 to 22 in ordinary runs: tanks, and what flows over. */
final class TanksTest {
    public static void main(String[] args) {
        overflow();
        oneFlowsOver();
        laterTank();
        drain();
        Check.end("TanksTest");
    }

    private static void thaw(SapNetwork x) {
        x.pass(-1);
        Check.due("13 thaw", x.pass(1), 15);
    }

    private static void tank(SapNetwork x, int tank, int volume, int sugar) {
        Check.due("21 tankVolume(" + tank + ")", x.tankVolume(tank), volume);
        Check.due("22 tankSugar(" + tank + ")", x.tankSugar(tank), sugar);
    }

    private static void lost(SapNetwork x, long volume, long sugar) {
        Check.due("37 loss", x.loss(), volume);
        Check.due("38 lossByBalance", x.lossByBalance(), volume);
        Check.due("39 lostSugar", x.lostSugar(), sugar);
        Check.due("40 isBalanced", x.isBalanced(), true);
    }

    private static void overflow() {
        SapNetwork x = States.sweet(4, 5, 8);
        thaw(x);
        // 40 * 4 / 15 = 10.7 stay first, 30 * 5 / 11 = 13.6 then, and all the rest at last
        tank(x, 0, 4, 10);
        tank(x, 1, 5, 13);
        tank(x, 2, 6, 17);
        lost(x, 0, 0);
        thaw(x);
        // 40 * 2 / 15 = 5.3
        tank(x, 0, 4, 10);
        tank(x, 1, 5, 13);
        tank(x, 2, 8, 22);
        lost(x, 13, 35);
        thaw(x);
        tank(x, 2, 8, 22);
        lost(x, 28, 75);
    }

    /** What passes a full tank takes all of its sugar along, however little it is. */
    private static void oneFlowsOver() {
        SapNetwork x = new SapNetwork();
        x.addTap(0, 0, 1, 5, 0);
        x.addTank(1);
        x.addTank(1);
        for (int i = 0; i < 3; i++) {
            x.pass(-1);
        }
        x.pass(1);
        tank(x, 0, 1, 5);
        tank(x, 1, 0, 0);
        x.pass(1);
        tank(x, 0, 1, 5);
        tank(x, 1, 1, 5);
        x.pass(1);
        lost(x, 1, 5);
    }

    private static void laterTank() {
        SapNetwork x = States.sweet(10);
        thaw(x);
        // 40 * 10 / 15 = 26.7
        tank(x, 0, 10, 26);
        lost(x, 5, 14);
        x.addTank(100);
        thaw(x);
        tank(x, 0, 10, 26);
        tank(x, 1, 15, 40);
        lost(x, 5, 14);
    }

    private static void drain() {
        SapNetwork x = States.sweet(4, 5, 8);
        thaw(x);
        Check.due("20 drain", x.drain(1), 5);
        tank(x, 0, 4, 10);
        tank(x, 1, 0, 0);
        tank(x, 2, 6, 17);
        lost(x, 5, 13);
        Check.due("20 empty", x.drain(1), 0);
        lost(x, 5, 13);
        thaw(x);
        // 40 * 5 / 15 = 13.3, and 27 * 2 / 10 = 5.4 in the last tank
        tank(x, 1, 5, 13);
        tank(x, 2, 8, 22);
        lost(x, 13, 35);
    }
}
