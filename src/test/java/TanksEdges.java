/** The sentences on tanks: their terms, and promises 19 to 22. */
final class TanksEdges extends Edges {
    static void run() {
        termsOfTanks();
        termsOfPouring();
        termsOfTheRest();
        addTank();
        drain();
        readings();
    }

    private static void tank(SapNetwork x, int tank, int volume, int sugar) {
        due("tankVolume(" + tank + ")", x.tankVolume(tank), volume);
        due("tankSugar(" + tank + ")", x.tankSugar(tank), sugar);
    }

    private static void lost(SapNetwork x, long volume, long sugar) {
        due("loss()", x.loss(), volume);
        due("lossByBalance()", x.lossByBalance(), volume);
        due("lostSugar()", x.lostSugar(), sugar);
        due("isBalanced()", x.isBalanced(), true);
    }

    /** A network with one tank, and 19 taps that give 2261 after each frost, of the sweetness 6. */
    private static SapNetwork flood(int capacity, int hours) {
        SapNetwork x = new SapNetwork();
        x.setPump(99);
        for (int node = 1; node < 20; node++) {
            x.addTap(0, 0, 20, 6, 0);
        }
        x.addTank(capacity);
        for (int hour = 0; hour < hours; hour++) {
            States.thawed(x);
        }
        return x;
    }

    private static void termsOfTanks() {
        String terms = "At most 4 tanks are numbered from 0; a tank has a capacity from 1 to 5000,"
                + " and contains a volume and sugar, initially none.";
        holds(TERMS, terms, () -> {
            SapNetwork x = new SapNetwork();
            for (int tank = 0; tank < 4; tank++) {
                due("the number of the tank", x.addTank(7), tank);
                tank(x, tank, 0, 0);
            }
            refused("addTank(7)", STATE, States::fullOfTanks, y -> y.addTank(7));
        });
        holds(TERMS, terms, () -> {
            SapNetwork least = States.thawed(States.sweet(1));
            tank(least, 0, 1, 2);
            lost(least, 14, 38);
            tank(flood(5000, 2), 0, 4522, 4522 * 6);
            SapNetwork most = flood(5000, 3);
            tank(most, 0, 5000, 30000);
            lost(most, 1783, 1783 * 6);
            refused("addTank(0)", ARGUMENT, States::working, y -> y.addTank(0));
            refused("addTank(5001)", ARGUMENT, States::working, y -> y.addTank(5001));
        });
    }

    private static void termsOfPouring() {
        String pouring = "Sap that is poured comes to the tank 0 first: as much of the volume as"
                + " there is room for stays in the tank, with all of its sugar if that is the whole"
                + " volume, and otherwise with the sugar times the volume that stays, divided by"
                + " the whole volume, rounded down.";
        holds(TERMS, pouring, () -> {
            // 15 with the sugar 40 come.
            tank(States.thawed(States.sweet(5000, 9)), 0, 15, 40);
            tank(States.thawed(States.sweet(16, 9)), 0, 15, 40);
            tank(States.thawed(States.sweet(15, 9)), 0, 15, 40);
            tank(States.thawed(States.sweet(15, 9)), 1, 0, 0);
            // 40 * 14 / 15 = 37.3, 40 * 2 / 15 = 5.3, 40 / 15 = 2.7 and 40 * 3 / 15 = 8
            tank(States.thawed(States.sweet(14, 9)), 0, 14, 37);
            tank(States.thawed(States.sweet(2, 9)), 0, 2, 5);
            tank(States.thawed(States.sweet(1, 9)), 0, 1, 2);
            tank(States.thawed(States.sweet(3, 9)), 0, 3, 8);
        });
        holds(TERMS, pouring, () -> {
            SapNetwork x = States.thawed(States.sweet(30));
            States.thawed(x);
            tank(x, 0, 30, 80);
            lost(x, 0, 0);
            States.thawed(x);
            // A full tank has no room.
            tank(x, 0, 30, 80);
            lost(x, 15, 40);
            SapNetwork y = States.thawed(States.thawed(States.sweet(29)));
            // 40 * 14 / 15 = 37.3 join the first 40.
            tank(y, 0, 29, 77);
            lost(y, 1, 3);
            SapNetwork z = States.thawed(States.thawed(States.sweet(16)));
            // 40 * 1 / 15 = 2.7
            tank(z, 0, 16, 42);
            lost(z, 14, 38);
            z.pass(0);
            tank(z, 0, 16, 42);
        });
    }

    private static void termsOfTheRest() {
        String rest = "The rest of volume and sugar is poured into the tank with the next number in"
                + " the same way, and so on; what is left behind the last tank, or if there is no"
                + " tank, is loss.";
        holds(TERMS, rest, () -> {
            SapNetwork fits = States.thawed(States.sweet(14, 1));
            tank(fits, 0, 14, 37);
            tank(fits, 1, 1, 3);
            lost(fits, 0, 0);
            SapNetwork over = States.thawed(States.sweet(13, 1));
            // 40 * 13 / 15 = 34.7, and 6 / 2 of the rest
            tank(over, 0, 13, 34);
            tank(over, 1, 1, 3);
            lost(over, 1, 3);
        });
        holds(TERMS, rest, () -> {
            SapNetwork x = States.thawed(States.sweet(1, 1, 1, 1));
            // 40 / 15, 38 / 14, 36 / 13 and 34 / 12 are all between 2 and 3.
            for (int tank = 0; tank < 4; tank++) {
                tank(x, tank, 1, 2);
            }
            lost(x, 11, 32);
            States.thawed(x);
            tank(x, 3, 1, 2);
            lost(x, 26, 72);
        });
        holds(TERMS, rest, () -> {
            SapNetwork x = States.thawed(States.sweet(2, 3, 4));
            // 40 * 2 / 15 = 5.3, 35 * 3 / 13 = 8.1, 27 * 4 / 10 = 10.8, and 6 with 17 are lost.
            x.drain(1);
            lost(x, 6 + 3, 17 + 8);
            States.thawed(x);
            // The tank 0 is full: 40 * 3 / 15 = 8 stay in the tank 1, and the tank 2 is full too.
            tank(x, 0, 2, 5);
            tank(x, 1, 3, 8);
            lost(x, 9 + 12, 25 + 32);
        });
        holds(TERMS, rest, () -> lost(States.thawed(States.sweet()), 15, 40));
    }

    private static void addTank() {
        holds(19, "`capacity`: the capacity, 1 to 5000", () -> {
            SapNetwork x = new SapNetwork();
            due("addTank(1)", x.addTank(1), 0);
            due("addTank(5000)", x.addTank(5000), 1);
            tank(flood(1, 1), 0, 1, 6);
            tank(flood(5000, 4), 0, 5000, 30000);
        });
        holds(19, "Throws `IllegalArgumentException` if the capacity is out of range", () -> {
            for (int capacity : outside(1, 5000)) {
                refused("addTank(" + capacity + ")", ARGUMENT, States::fresh,
                        x -> x.addTank(capacity));
                refused("addTank(" + capacity + ")", ARGUMENT, States::working,
                        x -> x.addTank(capacity));
            }
        });
        holds(19, "Throws `IllegalStateException` if there are 4 tanks", () -> {
            refused("addTank(1)", STATE, States::fullOfTanks, x -> x.addTank(1));
            refused("addTank(5000)", STATE, States::fullOfTanks, x -> x.addTank(5000));
            SapNetwork x = States.working();
            due("the third tank", x.addTank(1), 2);
            due("the fourth tank", x.addTank(1), 3);
        });
        holds(TERMS, FIRST_DOCUMENTED, () -> {
            refused("addTank(0)", ARGUMENT, States::fullOfTanks, x -> x.addTank(0));
            refused("addTank(5001)", ARGUMENT, States::fullOfTanks, x -> x.addTank(5001));
        });
    }

    private static void drain() {
        holds(20, "Drains a tank: all that it contains is loss.", () -> {
            SapNetwork x = States.working();
            lost(x, 20, 48);
            due("drain(0)", x.drain(0), 12);
            tank(x, 0, 0, 0);
            tank(x, 1, 4, 10);
            lost(x, 32, 76);
            due("drain(0) of the empty tank", x.drain(0), 0);
            lost(x, 32, 76);
            due("drain(1)", x.drain(1), 4);
            tank(x, 1, 0, 0);
            lost(x, 36, 86);
        });
        holds(20, "Drains a tank: all that it contains is loss.", () -> {
            SapNetwork x = flood(5000, 3);
            due("drain(0) of a full tank", x.drain(0), 5000);
            lost(x, 6783, 6783 * 6);
            due("the room after it", States.thawed(x).tankVolume(0), 2261);
            due("drain(0) of a new tank", States.sweet(1).drain(0), 0);
        });
        holds(20, NO_TANK, () -> {
            for (int tank : outside(0, 1)) {
                refused("drain(" + tank + ")", INDEX, States::working, x -> x.drain(tank));
            }
            refused("drain(0)", INDEX, States::fresh, x -> x.drain(0));
            refused("drain(4)", INDEX, States::fullOfTanks, x -> x.drain(4));
            due("the last tank", States.fullOfTanks().drain(3), 0);
        });
    }

    private static void readings() {
        holds(21, NO_TANK, () -> {
            for (int tank : outside(0, 1)) {
                refused("tankVolume(" + tank + ")", INDEX, States::working,
                        x -> x.tankVolume(tank));
            }
            refused("tankVolume(0)", INDEX, States::fresh, x -> x.tankVolume(0));
            refused("tankVolume(4)", INDEX, States::fullOfTanks, x -> x.tankVolume(4));
            due("the first tank", States.fullOfTanks().tankVolume(0), 1);
            due("the last tank", States.fullOfTanks().tankVolume(3), 0);
        });
        holds(22, NO_TANK, () -> {
            for (int tank : outside(0, 1)) {
                refused("tankSugar(" + tank + ")", INDEX, States::working,
                        x -> x.tankSugar(tank));
            }
            refused("tankSugar(0)", INDEX, States::fresh, x -> x.tankSugar(0));
            refused("tankSugar(4)", INDEX, States::fullOfTanks, x -> x.tankSugar(4));
            due("the first tank", States.fullOfTanks().tankSugar(0), 6);
            due("the last tank", States.fullOfTanks().tankSugar(3), 0);
        });
    }
}
