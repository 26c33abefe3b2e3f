import java.util.function.Consumer;

/** The sentences on the accounts and on exceptions: their terms, and promises 35 to 42. */
final class AccountsEdges extends Edges {
    static void run() {
        termsOfAccounts();
        termsOfExceptions();
        sums();
        shares();
        means();
    }

    private static void termsOfAccounts() {
        holds(TERMS, "All sap that came is syrup, steam, loss, or still there.", () -> {
            SapNetwork x = States.working();
            balanced(x);
            x.drain(0);
            balanced(x);
            x.setFire(9);
            States.boiled(x, 1);
            balanced(x);
            x.draw();
            balanced(x);
            x.load(1, 3);
            x.dump();
            balanced(x);
            x.pass(4);
            balanced(x);
        });
    }

    private static void balanced(SapNetwork x) {
        long there = x.tankVolume(0) + x.tankVolume(1) + x.panVolume();
        long syrup = 0;
        for (int batch = 0; batch < x.batches(); batch++) {
            syrup += x.batchVolume(batch);
        }
        due("all sap", syrup + x.steam() + x.loss() + there, x.totalSap());
        due("lossByBalance()", x.lossByBalance(), x.loss());
        due("isBalanced()", x.isBalanced(), true);
    }

    private static void termsOfExceptions() {
        holds(TERMS, CHANGES_NOTHING, () -> {
            SapNetwork x = States.working();
            refuseOnTubes(x);
            refuseOnTaps(x);
            refuseOnTanksAndPan(x);
            alike("a call of each kind", x, States.working());
        });
        holds(TERMS, CHANGES_NOTHING, () -> {
            SapNetwork x = new SapNetwork();
            Check.thrown("hoursToReady()", ELEMENT, x::hoursToReady);
            Check.thrown("hoursByBoiling()", ELEMENT, x::hoursByBoiling);
            Check.thrown("lossShare()", ARITHMETIC, x::lossShare);
            Check.thrown("meanSweetness()", ARITHMETIC, x::meanSweetness);
            alike("a call of each kind", x, new SapNetwork());
        });
    }

    private static void refuseOnTubes(SapNetwork x) {
        Check.thrown("addJunction", INDEX, () -> x.addJunction(5, 1));
        Check.thrown("addJunction", ARGUMENT, () -> x.addJunction(0, 21));
        Check.thrown("addJunction", UNSUPPORTED, () -> x.addJunction(2, 1));
        Check.thrown("addTap", INDEX, () -> x.addTap(5, 1, 1, 1, 0));
        Check.thrown("addTap", ARGUMENT, () -> x.addTap(0, 1, 1, 1, 6));
        Check.thrown("addTap", UNSUPPORTED, () -> x.addTap(2, 1, 1, 1, 0));
        Check.thrown("setPump", ARGUMENT, () -> x.setPump(100));
        Check.thrown("addLeak", INDEX, () -> x.addLeak(5, 1));
        Check.thrown("addLeak", ARGUMENT, () -> x.addLeak(1, 31));
        Check.thrown("repair", INDEX, () -> x.repair(5));
        Check.thrown("repair", ELEMENT, () -> x.repair(0));
        Check.thrown("vacuum", INDEX, () -> x.vacuum(5));
        Check.thrown("vacuumBySweep", INDEX, () -> x.vacuumBySweep(5));
        Check.thrown("expectedVacuum", INDEX, () -> x.expectedVacuum(5));
        Check.thrown("suspect", ELEMENT, () -> x.suspect(5));
        Check.thrown("depth", INDEX, () -> x.depth(5));
    }

    private static void refuseOnTaps(SapNetwork x) {
        Check.thrown("pass", ARGUMENT, () -> x.pass(31));
        Check.thrown("charge", INDEX, () -> x.charge(5));
        Check.thrown("charge", UNSUPPORTED, () -> x.charge(1));
        Check.thrown("sapOf", INDEX, () -> x.sapOf(5, 0));
        Check.thrown("sapOf", UNSUPPORTED, () -> x.sapOf(1, 0));
        Check.thrown("sapOf", ELEMENT, () -> x.sapOf(2, 4));
        Check.thrown("totalOf", INDEX, () -> x.totalOf(5));
        Check.thrown("totalOf", UNSUPPORTED, () -> x.totalOf(1));
        Check.thrown("tapByYield", ELEMENT, () -> x.tapByYield(2));
    }

    private static void refuseOnTanksAndPan(SapNetwork x) {
        Check.thrown("addTank", ARGUMENT, () -> x.addTank(0));
        Check.thrown("drain", INDEX, () -> x.drain(2));
        Check.thrown("tankVolume", INDEX, () -> x.tankVolume(2));
        Check.thrown("tankSugar", INDEX, () -> x.tankSugar(2));
        Check.thrown("load", INDEX, () -> x.load(2, 1));
        Check.thrown("load", ARGUMENT, () -> x.load(0, 0));
        Check.thrown("load", UNSUPPORTED, () -> x.load(0, 13));
        Check.thrown("setFire", ARGUMENT, () -> x.setFire(10));
        Check.thrown("draw", UNSUPPORTED, x::draw);
        Check.thrown("batchVolume", INDEX, () -> x.batchVolume(1));
        Check.thrown("gradeOf", INDEX, () -> x.gradeOf(1));
    }

    private static void sums() {
        holds(35, "Returns the volume of all sap that taps gave.", () -> {
            due("none", new SapNetwork().totalSap(), 0L);
            due("some", States.working().totalSap(), 49L);
            due("of all hours", States.fullOfHours().totalSap(), 7000L);
        });
        holds(36, "Returns the volume of all steam.", () -> {
            due("none", new SapNetwork().steam(), 0L);
            due("of two pans", States.working().steam(), 9L);
            SapNetwork x = States.working();
            x.dump();
            due("of a pan that was emptied", x.steam(), 9L);
        });
        holds(37, "Returns the volume of all loss, as it is kept.", () -> {
            due("none", new SapNetwork().loss(), 0L);
            due("what flowed over", States.working().loss(), 20L);
            due("what tanks hold is none", States.pantry().loss(), 0L);
        });
        holds(38, "Returns the same volume, found as what is missing: the volume of all sap minus"
                + " that of all steam, of all batches, and of what is in the tanks and in the pan.",
                () -> {
            due("none", new SapNetwork().lossByBalance(), 0L);
            due("what flowed over", States.working().lossByBalance(), 20L);
            due("all batches", States.fullOfBatches().lossByBalance(), 0L);
            due("all tanks", States.fullOfTanks().lossByBalance(), 0L);
            due("a full pan", States.pan(500, 0).lossByBalance(), 0L);
        });
        holds(39, "Returns the sugar of all loss.", () -> {
            due("none", new SapNetwork().lostSugar(), 0L);
            due("what flowed over", States.working().lostSugar(), 48L);
            due("a full pan and no loss", States.pan(500, 0).lostSugar(), 0L);
        });
        holds(40, "Returns whether loss() and lossByBalance() are the same, and the sugar of all"
                + " sap is that of all loss, of all batches, and of what is in the tanks and in the"
                + " pan.", () -> {
            due("a new object", new SapNetwork().isBalanced(), true);
            due("sap everywhere", States.working().isBalanced(), true);
            due("all hours", States.fullOfHours().isBalanced(), true);
            due("all tanks", States.fullOfTanks().isBalanced(), true);
            due("all batches", States.fullOfBatches().isBalanced(), true);
            due("a full pan", States.pan(500, 0).isBalanced(), true);
        });
    }

    /** A tap with the rate 1 and the sweetness 6 that gives sap only with a charge or much vacuum. */
    private static SapNetwork drop(int... temperatures) {
        SapNetwork x = new SapNetwork();
        x.setPump(19);
        x.addTap(0, 0, 1, 6, 0);
        for (int temperature : temperatures) {
            x.pass(temperature);
        }
        return x;
    }

    private static void refuseWithoutSap(String what, Consumer<SapNetwork> call) {
        refused(what + " of a new object", ARITHMETIC, States::fresh, call);
        refused(what + " before an hour", ARITHMETIC, AccountsEdges::drop, call);
        refused(what + " after a frost", ARITHMETIC, () -> drop(-1), call);
        // 1 * 19 / 100 is rounded down to none.
        refused(what + " after an hour of no volume", ARITHMETIC, () -> drop(1), call);
    }

    private static void shares() {
        holds(41, "Returns the volume of all loss divided by that of all sap, both converted to"
                + " float.", () -> {
            due("nothing lost", States.pantry().lossShare(), 0f);
            due("all lost", drop(-1, 1).lossShare(), 1f);
            due("20 of 49", States.working().lossShare(), 20f / 49f);
            due("20 of 49 as a float", (double) States.working().lossShare(), 0.40816327929496765);
        });
        holds(41, "Throws `ArithmeticException` if no sap came", () -> {
            refuseWithoutSap("lossShare()", SapNetwork::lossShare);
            due("as soon as 1 came", drop(-1, 1).lossShare(), 1f);
        });
    }

    private static void means() {
        holds(42, "Returns the sugar of all sap divided by its volume, both converted to double.",
                () -> {
            due("the sweetest", drop(-1, 1).meanSweetness(), 6.0);
            due("the least sweet", States.fullOfHours().meanSweetness(), 1.0);
            due("115 of 49", States.working().meanSweetness(), 115.0 / 49.0);
            due("115 of 49 as a double", States.working().meanSweetness(), 2.3469387755102042);
        });
        holds(42, "Throws `ArithmeticException` if no sap came", () -> {
            refuseWithoutSap("meanSweetness()", SapNetwork::meanSweetness);
            due("as soon as 1 came", drop(-1, 1).meanSweetness(), 6.0);
        });
    }
}
