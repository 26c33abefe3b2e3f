/**
 * The first sentence of a promise, where no test of a boundary quotes it: what the call does, in an
 * ordinary run that most often begins with States.working().
 */
final class Purposes extends Edges {
    static void run() {
        adding();
        pumpAndLeaks();
        hours();
        taps();
        tanks();
        pan();
        batches();
        accounts();
    }

    private static void tank(SapNetwork x, int tank, int volume, int sugar) {
        due("tankVolume(" + tank + ")", x.tankVolume(tank), volume);
        due("tankSugar(" + tank + ")", x.tankSugar(tank), sugar);
    }

    private static void lost(SapNetwork x, long volume, long sugar) {
        due("loss()", x.loss(), volume);
        due("lossByBalance()", x.lossByBalance(), volume);
        due("lostSugar()", x.lostSugar(), sugar);
    }

    private static void adding() {
        holds(2, "Adds a junction.", () -> {
            SapNetwork x = States.working();
            due("addJunction(1, 7)", x.addJunction(1, 7), 5);
            due("nodes()", x.nodes(), 6);
            due("vacuum(5)", x.vacuum(5), 42);
            due("expectedVacuum(5)", x.expectedVacuum(5), 48);
            due("depth(5)", x.depth(5), 2);
            Check.thrown("charge(5)", UNSUPPORTED, () -> x.charge(5));
            due("a tap below it", x.addTap(5, 2, 1, 1, 0), 6);
            due("vacuum(6)", x.vacuum(6), 40);
            due("depth(6)", x.depth(6), 3);
        });
        holds(3, "Adds a tap.", () -> {
            SapNetwork x = States.working();
            due("addTap(4, 6, 8, 5, 2)", x.addTap(4, 6, 8, 5, 2), 5);
            due("nodes()", x.nodes(), 6);
            due("vacuum(5)", x.vacuum(5), 50);
            due("depth(5)", x.depth(5), 2);
            due("charge(5)", x.charge(5), 0);
            due("totalOf(5)", x.totalOf(5), 0);
            due("sap while it freezes", x.pass(1), 32);
            due("charge(5)", x.charge(5), 1);
            // 8 * 70 / 20 = 28
            due("sap when it is warmer", x.pass(2), 32 + 28);
            due("totalOf(5)", x.totalOf(5), 28);
            Check.thrown("a node below it", UNSUPPORTED, () -> x.addJunction(5, 0));
        });
        holds(19, "Adds a tank.", () -> {
            SapNetwork x = States.working();
            due("addTank(10)", x.addTank(10), 2);
            tank(x, 2, 0, 0);
            x.pass(4);
            // 41 with the sugar 97 flow over into the tank 1, and 36 with 86 out of that.
            tank(x, 1, 9, 21);
            tank(x, 2, 10, 23);
            lost(x, 20 + 26, 48 + 63);
        });
    }

    private static void pumpAndLeaks() {
        holds(4, "Sets the pump.", () -> {
            SapNetwork x = States.working();
            due("setPump(80)", x.setPump(80), 60);
            due("vacuum(0)", x.vacuum(0), 77);
            due("vacuum(2)", x.vacuum(2), 65);
            due("expectedVacuum(2)", x.expectedVacuum(2), 71);
        });
        holds(6, "Repairs the leak of a node.", () -> {
            SapNetwork x = States.working();
            due("repair(1)", x.repair(1), 3);
            due("vacuum(0)", x.vacuum(0), 60);
            due("vacuum(2)", x.vacuum(2), 51);
            due("the leak after it", x.addLeak(1, 2), 0);
        });
        holds(7, "Returns the number of nodes.", () -> {
            SapNetwork x = States.working();
            due("nodes()", x.nodes(), 5);
            x.addJunction(0, 0);
            due("with one more", x.nodes(), 6);
        });
        holds(10, "Returns the expected vacuum of a node.", () -> {
            SapNetwork x = States.working();
            int[] due = {60, 55, 51, 35, 59};
            for (int node = 0; node < due.length; node++) {
                due("expectedVacuum(" + node + ")", x.expectedVacuum(node), due[node]);
            }
        });
    }

    private static void hours() {
        holds(13, "Lets an hour pass.", () -> {
            SapNetwork x = States.working();
            due("pass(4)", x.pass(4), 49);
            due("hours()", x.hours(), 5);
            due("charge(2)", x.charge(2), 1);
            due("charge(3)", x.charge(3), 1);
            // 115 * 8 / 49 = 18.8 of sugar join the tank 0, and 97 * 5 / 41 = 11.8 the tank 1.
            tank(x, 0, 20, 46);
            tank(x, 1, 9, 21);
            lost(x, 20 + 36, 48 + 86);
            due("panVolume()", x.panVolume(), 1);
            due("panSugar()", x.panSugar(), 18);
            due("steam()", x.steam(), 11L);
            due("totalSap()", x.totalSap(), 98L);
        });
    }

    private static void taps() {
        holds(15, "Returns the charge of a tap.", () -> {
            SapNetwork x = States.working();
            due("charge(2)", x.charge(2), 2);
            due("charge(3)", x.charge(3), 2);
            x.pass(1);
            due("charge(2) in the sun", x.charge(2), 1);
            due("charge(3) in the shade", x.charge(3), 3);
        });
        holds(16, "Returns the volume that a tap gave in an hour.", () -> {
            SapNetwork x = States.working();
            int[][] due = {{0, 32, 0, 0}, {0, 17, 0, 0}};
            for (int hour = 0; hour < 4; hour++) {
                due("sapOf(2, " + hour + ")", x.sapOf(2, hour), due[0][hour]);
                due("sapOf(3, " + hour + ")", x.sapOf(3, hour), due[1][hour]);
            }
        });
    }

    private static void tanks() {
        holds(21, "Returns the volume in a tank.", () -> {
            SapNetwork x = States.working();
            due("tankVolume(0)", x.tankVolume(0), 12);
            due("tankVolume(1)", x.tankVolume(1), 4);
        });
        holds(22, "Returns the sugar in a tank.", () -> {
            SapNetwork x = States.working();
            due("tankSugar(0)", x.tankSugar(0), 28);
            due("tankSugar(1)", x.tankSugar(1), 10);
        });
    }

    private static void pan() {
        holds(24, "Sets the level of the fire.", () -> {
            SapNetwork x = States.pan(100, 0);
            due("setFire(4)", x.setFire(4), 0);
            x.pass(-30);
            due("panVolume()", x.panVolume(), 80);
            due("setFire(2)", x.setFire(2), 4);
            x.pass(-30);
            due("panVolume()", x.panVolume(), 70);
        });
        holds(25, "Returns the volume in the pan.", () -> {
            SapNetwork x = States.working();
            due("panVolume()", x.panVolume(), 3);
            x.load(1, 2);
            due("panVolume() after a load", x.panVolume(), 5);
        });
        holds(26, "Returns the sugar in the pan.", () -> {
            SapNetwork x = States.working();
            due("panSugar()", x.panSugar(), 18);
            x.load(1, 2);
            due("panSugar() after a load", x.panSugar(), 23);
        });
        holds(28, "Returns how many hours with the present level of the fire the pan must boil"
                + " until it is ready, if nothing is loaded, found by division.", () -> {
            for (int fire = 1; fire <= 9; fire++) {
                SapNetwork x = States.pan(100, 0);
                x.setFire(fire);
                int hours = x.hoursToReady();
                States.boiled(x, hours - 1);
                due("ready too early with the fire " + fire, x.isReady(), false);
                due("hours left with the fire " + fire, x.hoursToReady(), 1);
                States.boiled(x, 1);
                due("ready in time with the fire " + fire, x.isReady(), true);
            }
        });
    }

    /** A batch of 10 that took so many hours above this fire. */
    private static SapNetwork drawn(int fire, int hours) {
        SapNetwork x = States.pan(100, 0);
        x.setFire(fire);
        States.boiled(x, hours).draw();
        return x;
    }

    private static void batches() {
        holds(30, "Draws a batch of syrup.", () -> {
            SapNetwork x = States.working();
            x.pass(-1);
            due("draw()", x.draw(), 1);
            due("batches()", x.batches(), 2);
            due("batchVolume(1)", x.batchVolume(1), 1);
            due("gradeOf(1)", x.gradeOf(1), 'g');
            due("panVolume()", x.panVolume(), 0);
            due("panSugar()", x.panSugar(), 0);
        });
        holds(33, "Returns the volume of a batch.", () -> {
            due("of 8", States.working().batchVolume(0), 1);
            due("of 100", drawn(9, 2).batchVolume(0), 10);
        });
        holds(34, "Returns the grade of a batch.", () -> {
            due("after 2 hours", drawn(9, 2).gradeOf(0), 'g');
            due("after 5 hours", drawn(4, 5).gradeOf(0), 'a');
            due("after 9 hours", drawn(2, 9).gradeOf(0), 'd');
        });
    }

    private static void accounts() {
        holds(40, "Returns whether volume and sugar are balanced.", () -> {
            SapNetwork x = States.working();
            due("isBalanced()", x.isBalanced(), true);
            x.drain(1);
            x.dump();
            due("isBalanced() after a loss", x.isBalanced(), true);
        });
        holds(41, "Returns the share of the sap that is loss.", () -> {
            SapNetwork x = States.working();
            due("lossShare()", x.lossShare(), 20f / 49f);
            x.drain(0);
            due("lossShare() after a loss", x.lossShare(), 32f / 49f);
        });
        holds(42, "Returns the mean sweetness of all sap.", () -> {
            due("of two taps", States.working().meanSweetness(), 115.0 / 49.0);
            due("of two tanks", States.pantry().meanSweetness(), 3689.0 / 714.0);
        });
    }
}
