import java.util.function.Supplier;

/** The sentences on nodes, tubes, leaks and vacuum: their terms, and promises 1 to 12. */
final class TubesEdges extends Edges {
    static void run() {
        newObject();
        termsOfNodes();
        termsOfTaps();
        termsOfLeaksAndPump();
        termsOfVacuum();
        termsOfLosses();
        addJunction();
        addTap();
        setPump();
        addLeak();
        repair();
        nodes();
        vacuums();
        suspects();
        depth();
        severalExceptions();
    }

    private static void newObject() {
        holds(1, "Creates a network with the pump alone, without tanks, with an empty pan.", () -> {
            SapNetwork x = new SapNetwork();
            due("nodes()", x.nodes(), 1);
            due("depth(0)", x.depth(0), 0);
            due("vacuum(0)", x.vacuum(0), 0);
            due("vacuumBySweep(0)", x.vacuumBySweep(0), 0);
            due("expectedVacuum(0)", x.expectedVacuum(0), 0);
            due("hours()", x.hours(), 0);
            due("panVolume()", x.panVolume(), 0);
            due("panSugar()", x.panSugar(), 0);
            due("isReady()", x.isReady(), false);
            due("batches()", x.batches(), 0);
            due("totalSap()", x.totalSap(), 0L);
            due("steam()", x.steam(), 0L);
            due("loss()", x.loss(), 0L);
            due("lossByBalance()", x.lossByBalance(), 0L);
            due("lostSugar()", x.lostSugar(), 0L);
            due("isBalanced()", x.isBalanced(), true);
            due("dump()", x.dump(), 0);
            refused("tankVolume(0)", INDEX, States::fresh, y -> y.tankVolume(0));
            refused("charge(0)", UNSUPPORTED, States::fresh, y -> y.charge(0));
            due("the first node", x.addJunction(0, 0), 1);
            due("the first tank", x.addTank(1), 0);
        });
        holds(1, "Creates a network with the pump alone, without tanks, with an empty pan.", () -> {
            SapNetwork twin = new SapNetwork();
            SapNetwork other = States.working();
            alike("what is done with another object", twin, new SapNetwork());
            due("the other one's nodes()", other.nodes(), 5);
        });
    }

    private static void termsOfNodes() {
        holds(TERMS, "At most 20 nodes are numbered from 0 in the order in which they were added;"
                + " the node 0 is the pump, and is there from the beginning.", () -> {
            SapNetwork x = new SapNetwork();
            x.setPump(7);
            due("the pump's vacuum", x.vacuum(0), 7);
            for (int node = 1; node < 20; node++) {
                boolean even = node % 2 == 0;
                int added = even ? x.addTap(0, 0, 1, 1, 0) : x.addJunction(0, 0);
                due("the number of the node", added, node);
            }
            due("nodes()", x.nodes(), 20);
            due("vacuum(19)", x.vacuum(19), 7);
            refuseBoth(STATE, States::fullOfNodes, 0);
        });
        holds(TERMS, "Each other node is a junction or a tap, and is joined by a tube to one node"
                + " that is not a tap, its parent.", () -> {
            SapNetwork x = new SapNetwork();
            due("a junction below the pump", x.addJunction(0, 0), 1);
            due("a tap below the pump", x.addTap(0, 0, 1, 1, 0), 2);
            due("a junction below a junction", x.addJunction(1, 0), 3);
            due("a tap below a junction", x.addTap(3, 0, 1, 1, 0), 4);
            refuseBoth(UNSUPPORTED, States::working, 2);
            refuseBoth(UNSUPPORTED, States::working, 3);
        });
        holds(TERMS, "A tube has a drop from 0 to 20.", () -> {
            SapNetwork x = new SapNetwork();
            x.setPump(50);
            x.addJunction(0, 0);
            x.addJunction(0, 20);
            x.addTap(0, 0, 1, 1, 0);
            x.addTap(0, 20, 1, 1, 0);
            int[] vacuums = {50, 50, 30, 50, 30};
            for (int node = 0; node < 5; node++) {
                due("vacuum(" + node + ")", x.vacuum(node), vacuums[node]);
            }
            for (int drop : new int[] {-1, 21}) {
                refuseJunction(ARGUMENT, States::working, 0, drop);
                refuseTap(ARGUMENT, States::working, 0, drop, 1, 1, 0);
            }
        });
    }

    private static void termsOfTaps() {
        String ranges = "A tap has a rate from 1 to 20, a sweetness from 1 to 6, and a shade from 0"
                + " to 5; its charge, from 0 to 9, is initially 0.";
        holds(TERMS, ranges, () -> {
            SapNetwork x = new SapNetwork();
            x.addTap(0, 0, 1, 1, 0);
            x.addTap(0, 0, 20, 6, 5);
            due("the first charge", x.charge(1), 0);
            due("the first charge", x.charge(2), 0);
            x.pass(-1);
            due("the least tap gives", x.pass(0), 1);
            due("its sugar", x.lostSugar(), 1L);
            due("the most tap gives", x.pass(5), 20);
            due("its sugar", x.lostSugar(), 121L);
            due("least charge", x.charge(1), 0);
            due("charge after 2 of frost", x.charge(2), 1);
            for (int[] tap : new int[][] {{0, 1, 0}, {21, 1, 0}, {1, 0, 0}, {1, 7, 0}, {1, 1, -1},
                    {1, 1, 6}}) {
                refuseTap(ARGUMENT, States::working, 0, 0, tap[0], tap[1], tap[2]);
            }
        });
        holds(TERMS, ranges, () -> {
            SapNetwork x = new SapNetwork();
            x.addTap(0, 0, 1, 1, 0);
            for (int hour = 1; hour <= 11; hour++) {
                x.pass(-1);
                due("the charge in the frost " + hour, x.charge(1), hour < 9 ? hour : 9);
            }
            for (int hour = 1; hour <= 11; hour++) {
                x.pass(1);
                due("the charge in the warm hour " + hour, x.charge(1), hour < 9 ? 9 - hour : 0);
            }
        });
    }

    private static void termsOfLeaksAndPump() {
        holds(TERMS, "A node, the pump included, can have a leak of a size from 1 to 30.", () -> {
            for (int node : new int[] {0, 1, 2, 4}) {
                SapNetwork x = States.working();
                x.addLeak(node, 1);
                due("the least leak of " + node, x.repair(node), 1);
                x.addLeak(node, 30);
                due("the largest leak of " + node, x.repair(node), 30);
                refuseLeak(ARGUMENT, States::working, node, 0);
                refuseLeak(ARGUMENT, States::working, node, 31);
            }
        });
        holds(TERMS, "The pump has a setting from 0 to 99, initially 0.", () -> {
            SapNetwork x = new SapNetwork();
            due("the setting at first", x.setPump(99), 0);
            due("the most vacuum", x.vacuum(0), 99);
            due("the setting before", x.setPump(0), 99);
            due("the least vacuum", x.vacuum(0), 0);
            refuseSetting(States::working, -1);
            refuseSetting(States::working, 100);
        });
    }

    /** A network with a setting of 99, and two junctions in a chain without a drop. */
    private static SapNetwork chain(int leakOfPump, int leakOfFirst, int leakOfSecond) {
        SapNetwork x = new SapNetwork();
        x.setPump(99);
        x.addJunction(0, 0);
        x.addJunction(1, 0);
        int[] leaks = {leakOfPump, leakOfFirst, leakOfSecond};
        for (int node = 0; node < 3; node++) {
            if (leaks[node] > 0) {
                x.addLeak(node, leaks[node]);
            }
        }
        return x;
    }

    private static void vacuums(SapNetwork x, int... due) {
        for (int node = 0; node < due.length; node++) {
            due("vacuum(" + node + ")", x.vacuum(node), due[node]);
            due("vacuumBySweep(" + node + ")", x.vacuumBySweep(node), due[node]);
        }
    }

    private static void termsOfVacuum() {
        holds(TERMS, "The vacuum of the pump is its setting minus the sizes of the leaks of all"
                + " nodes, and minus the size of its own leak once more.", () -> {
            vacuums(chain(0, 0, 0), 99);
            vacuums(chain(1, 0, 0), 97);
            vacuums(chain(0, 1, 0), 98);
            vacuums(chain(0, 0, 30), 69);
            vacuums(chain(30, 8, 30), 1);
            vacuums(chain(30, 9, 30), 0);
            vacuums(chain(30, 10, 30), 0);
        });
        holds(TERMS, "The vacuum of any other node is the vacuum of its parent minus the drop of"
                + " its tube, and minus the size of its own leak, if it has one.", () -> {
            SapNetwork x = States.working();
            vacuums(x, 57, 49, 45, 29, 56);
            x.addLeak(3, 28);
            vacuums(x, 29, 21, 17, 0, 28);
            x.repair(1);
            vacuums(x, 32, 27, 23, 0, 31);
            x.addLeak(3, 1);
            vacuums(x, 59, 54, 50, 33, 58);
        });
        holds(TERMS, "A vacuum that would be less than 0 is 0; what is subtracted from it further"
                + " on is subtracted from 0 then.", () -> {
            SapNetwork x = new SapNetwork();
            x.addJunction(0, 19);
            x.addJunction(0, 20);
            x.addJunction(1, 0);
            x.addJunction(1, 1);
            x.addJunction(4, 20);
            x.setPump(18);
            vacuums(x, 18, 0, 0, 0, 0, 0);
            x.setPump(19);
            vacuums(x, 19, 0, 0, 0, 0, 0);
            x.setPump(20);
            vacuums(x, 20, 1, 0, 1, 0, 0);
            x.setPump(21);
            vacuums(x, 21, 2, 1, 2, 1, 0);
            x.addLeak(3, 1);
            vacuums(x, 20, 1, 0, 0, 0, 0);
            x.addLeak(0, 10);
            vacuums(x, 0, 0, 0, 0, 0, 0);
        });
        holds(TERMS, "The expected vacuum of a node is what its vacuum would be without all leaks;"
                + " it is not less than 0 either.", () -> {
            SapNetwork x = new SapNetwork();
            x.addJunction(0, 19);
            x.addJunction(1, 1);
            x.addJunction(2, 1);
            x.addJunction(0, 20);
            x.addLeak(0, 30);
            x.addLeak(1, 30);
            x.setPump(18);
            expected(x, 18, 0, 0, 0, 0);
            x.setPump(19);
            expected(x, 19, 0, 0, 0, 0);
            x.setPump(20);
            expected(x, 20, 1, 0, 0, 0);
            x.setPump(21);
            expected(x, 21, 2, 1, 0, 1);
        });
    }

    private static void expected(SapNetwork x, int... due) {
        for (int node = 0; node < due.length; node++) {
            due("expectedVacuum(" + node + ")", x.expectedVacuum(node), due[node]);
        }
    }

    private static void ranks(SapNetwork x, int... due) {
        for (int rank = 0; rank < due.length; rank++) {
            due("suspect(" + rank + ")", x.suspect(rank), due[rank]);
        }
        Check.thrown("suspect(" + due.length + ")", ELEMENT, () -> x.suspect(due.length));
    }

    private static void termsOfLosses() {
        holds(TERMS, "The loss of a node is its expected vacuum minus its vacuum.", () -> {
            SapNetwork x = new SapNetwork();
            x.addJunction(0, 0);
            x.addLeak(1, 1);
            // All vacuum is lost, and none, ahead of the leak.
            ranks(x);
            x.setPump(1);
            ranks(x, 0);
            x.setPump(2);
            ranks(x, 0, 1);
            x.repair(1);
            ranks(x);
        });
        holds(TERMS, "The own loss of a node is its loss minus the loss of its parent; that of the"
                + " pump is its loss.", () -> {
            SapNetwork x = new SapNetwork();
            x.setPump(20);
            x.addJunction(0, 15);
            x.addJunction(0, 0);
            x.addLeak(0, 1);
            // The losses are 2, 2 and 2.
            ranks(x, 0);
            x.addLeak(2, 3);
            // The losses are 5, 5 and 8.
            ranks(x, 0, 2);
            x.addLeak(0, 3);
            // The losses are 9, 5 and 12: the vacuum of the node 1 can't get less than 0.
            ranks(x, 0, 2);
            x.repair(0);
            x.addLeak(1, 1);
            x.addLeak(2, 4);
            // The losses are 5, 5 and 9: the own loss of the node 1, with a leak, is 0.
            ranks(x, 0, 2);
        });
    }

    private static void addJunction() {
        holds(2, "`drop`: the drop of the tube between both, 0 to 20", () -> {
            SapNetwork x = new SapNetwork();
            x.setPump(99);
            due("addJunction(0, 0)", x.addJunction(0, 0), 1);
            due("addJunction(1, 20)", x.addJunction(1, 20), 2);
            due("addJunction(2, 1)", x.addJunction(2, 1), 3);
            due("addJunction(3, 19)", x.addJunction(3, 19), 4);
            vacuums(x, 99, 99, 79, 78, 59);
        });
        holds(2, "Throws `IndexOutOfBoundsException` if there is no such parent", () -> {
            for (int parent : outside(0, 0)) {
                refuseJunction(INDEX, States::fresh, parent, 0);
            }
            for (int parent : outside(0, 4)) {
                refuseJunction(INDEX, States::working, parent, 20);
            }
            due("the last parent", States.working().addJunction(4, 0), 5);
            due("the first parent", States.working().addJunction(0, 0), 5);
        });
        holds(2, "Throws `IllegalArgumentException` if the drop is out of range", () -> {
            for (int drop : outside(0, 20)) {
                refuseJunction(ARGUMENT, States::fresh, 0, drop);
                refuseJunction(ARGUMENT, States::working, 1, drop);
            }
        });
        holds(2, "Throws `UnsupportedOperationException` if the parent is a tap", () -> {
            refuseJunction(UNSUPPORTED, States::working, 2, 0);
            refuseJunction(UNSUPPORTED, States::working, 3, 20);
        });
        holds(2, "Throws `IllegalStateException` if there are 20 nodes", () -> {
            refuseJunction(STATE, States::fullOfNodes, 0, 0);
            refuseJunction(STATE, States::fullOfNodes, 19, 20);
            SapNetwork x = new SapNetwork();
            for (int node = 1; node < 20; node++) {
                due("the node", x.addJunction(node - 1, 0), node);
            }
        });
    }

    private static void addTap() {
        tapRange("`drop`: the drop of the tube between both, 0 to 20", () -> {
            SapNetwork x = new SapNetwork();
            x.setPump(99);
            due("addTap(0, 0, ..)", x.addTap(0, 0, 1, 1, 0), 1);
            due("addTap(0, 20, ..)", x.addTap(0, 20, 1, 1, 0), 2);
            vacuums(x, 99, 99, 79);
        });
        tapRange("`rate`: the rate, 1 to 20", () -> {
            for (int rate = 1; rate <= 20; rate += 19) {
                SapNetwork x = new SapNetwork();
                x.addTap(0, 0, rate, 1, 0);
                x.pass(-1);
                due("the volume with the rate " + rate, x.pass(1), rate);
            }
        });
        tapRange("`sweetness`: the sweetness, 1 to 6", () -> {
            for (int sweetness = 1; sweetness <= 6; sweetness += 5) {
                SapNetwork x = new SapNetwork();
                x.addTap(0, 0, 2, sweetness, 0);
                States.thawed(x);
                due("the sugar with the sweetness " + sweetness, x.lostSugar(), 2L * sweetness);
            }
        });
        tapRange("`shade`: the shade, 0 to 5", () -> {
            for (int shade = 0; shade <= 5; shade += 5) {
                SapNetwork x = new SapNetwork();
                x.addTap(0, 0, 4, 1, shade);
                due("frost with the shade " + shade, x.pass(shade - 1), 0);
                due("charge with the shade " + shade, x.charge(1), 1);
                due("warmth with the shade " + shade, x.pass(shade), 4);
            }
        });
        holds(3, "Throws `IndexOutOfBoundsException` if there is no such parent", () -> {
            for (int parent : outside(0, 0)) {
                refuseTap(INDEX, States::fresh, parent, 0, 1, 1, 0);
            }
            for (int parent : outside(0, 4)) {
                refuseTap(INDEX, States::working, parent, 20, 20, 6, 5);
            }
            due("the last parent", States.working().addTap(4, 0, 1, 1, 0), 5);
            due("the first parent", States.working().addTap(0, 0, 1, 1, 0), 5);
        });
        holds(3, "Throws `IllegalArgumentException` if the drop, the rate, the sweetness or the"
                + " shade is out of range", TubesEdges::refuseTapsOutOfRange);
        holds(3, "Throws `UnsupportedOperationException` if the parent is a tap", () -> {
            refuseTap(UNSUPPORTED, States::working, 2, 0, 1, 1, 0);
            refuseTap(UNSUPPORTED, States::working, 3, 20, 20, 6, 5);
        });
        holds(3, "Throws `IllegalStateException` if there are 20 nodes", () -> {
            refuseTap(STATE, States::fullOfNodes, 0, 0, 1, 1, 0);
            refuseTap(STATE, States::fullOfNodes, 19, 20, 20, 6, 5);
            SapNetwork x = new SapNetwork();
            for (int node = 1; node < 20; node++) {
                due("the node", x.addTap(0, 0, 1, 1, 0), node);
            }
        });
    }

    private static void tapRange(String sentence, Runnable test) {
        holds(3, sentence, test);
    }

    private static void refuseTapsOutOfRange() {
        for (int drop : outside(0, 20)) {
            refuseTap(ARGUMENT, States::working, 0, drop, 1, 1, 0);
        }
        for (int rate : outside(1, 20)) {
            refuseTap(ARGUMENT, States::working, 0, 0, rate, 1, 0);
        }
        for (int sweetness : outside(1, 6)) {
            refuseTap(ARGUMENT, States::working, 0, 0, 1, sweetness, 0);
        }
        for (int shade : outside(0, 5)) {
            refuseTap(ARGUMENT, States::working, 0, 0, 1, 1, shade);
        }
        refuseTap(ARGUMENT, States::fresh, 0, -1, 0, 0, -1);
    }

    private static void setPump() {
        holds(4, "`setting`: the setting, 0 to 99", () -> {
            SapNetwork x = States.working();
            x.setPump(99);
            vacuums(x, 96, 88, 84, 68, 95);
            x.setPump(0);
            vacuums(x, 0, 0, 0, 0, 0);
        });
        holds(4, "Returns the setting before.", () -> {
            SapNetwork x = new SapNetwork();
            due("before the first", x.setPump(0), 0);
            due("before the second", x.setPump(99), 0);
            due("before the third", x.setPump(99), 99);
            due("before the fourth", x.setPump(1), 99);
        });
        holds(4, "Throws `IllegalArgumentException` if the setting is out of range", () -> {
            for (int setting : outside(0, 99)) {
                refuseSetting(States::fresh, setting);
                refuseSetting(States::working, setting);
            }
        });
    }

    private static void addLeak() {
        holds(5, "Gives a node a leak, in place of one that it has.", () -> {
            SapNetwork x = chain(0, 30, 0);
            vacuums(x, 69, 39, 39);
            x.addLeak(1, 1);
            vacuums(x, 98, 97, 97);
            x.addLeak(1, 1);
            vacuums(x, 98, 97, 97);
            x.addLeak(1, 30);
            vacuums(x, 69, 39, 39);
        });
        holds(5, "`size`: the size of the leak, 1 to 30", () -> {
            SapNetwork x = chain(0, 0, 1);
            vacuums(x, 98, 98, 97);
            x.addLeak(0, 30);
            vacuums(x, 38, 38, 37);
        });
        holds(5, "Returns the size of the leak that it had, 0 if it had none.", () -> {
            SapNetwork x = chain(0, 0, 0);
            for (int node = 0; node < 3; node++) {
                due("none before", x.addLeak(node, 30), 0);
                due("the largest before", x.addLeak(node, 1), 30);
                due("the least before", x.addLeak(node, 2), 1);
                x.repair(node);
                due("none after the repair", x.addLeak(node, 2), 0);
            }
        });
        holds(5, NO_NODE, () -> {
            for (int node : outside(0, 4)) {
                refuseLeak(INDEX, States::working, node, 1);
            }
            for (int node : outside(0, 0)) {
                refuseLeak(INDEX, States::fresh, node, 30);
            }
            due("the first node", States.working().addLeak(0, 1), 0);
            due("the last node", States.working().addLeak(4, 1), 0);
        });
        holds(5, "Throws `IllegalArgumentException` if the size is out of range", () -> {
            for (int size : outside(1, 30)) {
                // The pump has no leak, the node 1 has one.
                refuseLeak(ARGUMENT, States::working, 0, size);
                refuseLeak(ARGUMENT, States::working, 1, size);
            }
        });
    }

    private static void repair() {
        holds(6, "Returns the size of the leak that it had.", () -> {
            SapNetwork x = chain(30, 1, 2);
            due("repair(0)", x.repair(0), 30);
            vacuums(x, 96, 95, 93);
            due("repair(1)", x.repair(1), 1);
            vacuums(x, 97, 97, 95);
            due("repair(2)", x.repair(2), 2);
            vacuums(x, 99, 99, 99);
        });
        holds(6, NO_NODE, () -> {
            for (int node : outside(0, 4)) {
                refused("repair(" + node + ")", INDEX, States::working, x -> x.repair(node));
            }
            due("the last node", chain(0, 0, 1).repair(2), 1);
        });
        holds(6, "Throws `NoSuchElementException` if it has no leak", () -> {
            for (int node : new int[] {0, 2, 4}) {
                refused("repair(" + node + ")", ELEMENT, States::working, x -> x.repair(node));
            }
            refused("repair(1) again", ELEMENT, () -> repaired(States.working()),
                    x -> x.repair(1));
        });
    }

    private static SapNetwork repaired(SapNetwork x) {
        x.repair(1);
        return x;
    }

    private static void nodes() {
        holds(7, "Returns the number of nodes, the pump included.", () -> {
            SapNetwork x = new SapNetwork();
            due("the pump alone", x.nodes(), 1);
            x.addTap(0, 0, 1, 1, 0);
            due("with a tap", x.nodes(), 2);
            x.addJunction(0, 0);
            due("with a junction", x.nodes(), 3);
            due("a full network", States.fullOfNodes().nodes(), 20);
        });
    }

    private static void vacuums() {
        holds(8, "Returns the vacuum of a node, found from its parent, from that one's parent, and"
                + " so on, by recursion.", () -> {
            SapNetwork x = States.deepest();
            for (int node = 0; node < 20; node++) {
                due("vacuum(" + node + ")", x.vacuum(node), 99 - node);
            }
        });
        holds(9, "Returns the same vacuum, found for all nodes in ascending order of their"
                + " numbers.", () -> {
            SapNetwork x = States.deepest();
            x.addLeak(10, 5);
            due("the last node first", x.vacuumBySweep(19), 70);
            for (int node = 0; node < 20; node++) {
                due("vacuumBySweep(" + node + ")", x.vacuumBySweep(node), x.vacuum(node));
            }
        });
        holds(8, NO_NODE, () -> {
            for (int node : outside(0, 4)) {
                refused("vacuum(" + node + ")", INDEX, States::working, x -> x.vacuum(node));
            }
            refused("vacuum(1)", INDEX, States::fresh, x -> x.vacuum(1));
            refused("vacuum(20)", INDEX, States::fullOfNodes, x -> x.vacuum(20));
            due("the last node", States.fullOfNodes().vacuum(19), 69);
        });
        holds(9, NO_NODE, () -> {
            for (int node : outside(0, 4)) {
                refused("vacuumBySweep(" + node + ")", INDEX, States::working,
                        x -> x.vacuumBySweep(node));
            }
            refused("vacuumBySweep(1)", INDEX, States::fresh, x -> x.vacuumBySweep(1));
            refused("vacuumBySweep(20)", INDEX, States::fullOfNodes, x -> x.vacuumBySweep(20));
            due("the last node", States.fullOfNodes().vacuumBySweep(19), 69);
        });
        holds(10, NO_NODE, () -> {
            for (int node : outside(0, 4)) {
                refused("expectedVacuum(" + node + ")", INDEX, States::working,
                        x -> x.expectedVacuum(node));
            }
            refused("expectedVacuum(1)", INDEX, States::fresh, x -> x.expectedVacuum(1));
            refused("expectedVacuum(20)", INDEX, States::fullOfNodes, x -> x.expectedVacuum(20));
            due("the last node", States.fullOfNodes().expectedVacuum(19), 69);
        });
    }

    private static SapNetwork leaking(int setting, int... leaks) {
        SapNetwork x = new SapNetwork();
        x.setPump(setting);
        for (int leak : leaks) {
            x.addLeak(x.addJunction(0, 0), leak);
        }
        return x;
    }

    private static void suspects() {
        String order = "Returns the node at a rank of those whose own loss is above 0, in"
                + " descending order of their own losses; for equal ones, the node with the lower"
                + " number comes first.";
        holds(11, order, () -> {
            // The own losses of the pump and the nodes 1 to 4: the pump loses what all leaks do.
            ranks(leaking(99, 2, 3, 1, 3), 0, 2, 4, 1, 3);
            ranks(leaking(99, 3, 2, 1), 0, 1, 2, 3);
            ranks(leaking(99, 1, 2, 3), 0, 3, 2, 1);
            // A single leak: the pump and the node 1 lose the same.
            ranks(leaking(99, 30), 0, 1);
            ranks(leaking(99));
        });
        holds(11, order, () -> {
            int[] all = new int[19];
            int[] due = new int[20];
            for (int node = 1; node < 20; node++) {
                all[node - 1] = 1;
                due[node] = node;
            }
            ranks(leaking(99, all), due);
        });
        holds(11, RANK, () -> {
            SapNetwork x = leaking(99, 1, 2);
            due("the first rank", x.suspect(0), 0);
            due("the last rank", x.suspect(2), 1);
        });
        holds(11, NO_RANK, () -> {
            for (int rank : outside(0, 2)) {
                refused("suspect(" + rank + ")", ELEMENT, () -> leaking(99, 1, 2),
                        x -> x.suspect(rank));
            }
            refused("suspect(0)", ELEMENT, States::fresh, x -> x.suspect(0));
            refused("suspect(0)", ELEMENT, States::fullOfNodes, x -> x.suspect(0));
        });
    }

    private static void depth() {
        holds(12, "Returns the number of tubes between a node and the pump.", () -> {
            SapNetwork x = States.deepest();
            for (int node = 0; node < 20; node++) {
                due("depth(" + node + ")", x.depth(node), node);
            }
            due("below the pump", States.fullOfNodes().depth(19), 1);
        });
        holds(12, NO_NODE, () -> {
            for (int node : outside(0, 4)) {
                refused("depth(" + node + ")", INDEX, States::working, x -> x.depth(node));
            }
            refused("depth(1)", INDEX, States::fresh, x -> x.depth(1));
            refused("depth(20)", INDEX, States::fullOfNodes, x -> x.depth(20));
        });
    }

    private static void severalExceptions() {
        holds(TERMS, FIRST_DOCUMENTED, () -> {
            refuseJunction(INDEX, States::working, 5, 21);
            refuseJunction(INDEX, States::fullOfNodes, 20, 0);
            refuseJunction(INDEX, States::fullOfNodes, -1, -1);
            refuseJunction(ARGUMENT, States::working, 2, -1);
            refuseJunction(ARGUMENT, States::fullOfNodes, 0, 21);
            refuseJunction(ARGUMENT, States::fullOfNodes, 1, 21);
            refuseJunction(UNSUPPORTED, States::fullOfNodes, 1, 0);
        });
        holds(TERMS, FIRST_DOCUMENTED, () -> {
            refuseTap(INDEX, States::working, 5, 0, 1, 1, 6);
            refuseTap(INDEX, States::fullOfNodes, 20, 0, 1, 1, 0);
            refuseTap(INDEX, States::fullOfNodes, -1, 21, 0, 0, -1);
            refuseTap(ARGUMENT, States::working, 2, 21, 1, 1, 0);
            refuseTap(ARGUMENT, States::working, 2, 0, 21, 1, 0);
            refuseTap(ARGUMENT, States::working, 2, 0, 1, 7, 0);
            refuseTap(ARGUMENT, States::working, 2, 0, 1, 1, 6);
            refuseTap(ARGUMENT, States::fullOfNodes, 0, 0, 0, 1, 0);
            refuseTap(ARGUMENT, States::fullOfNodes, 1, 0, 1, 0, 0);
            refuseTap(UNSUPPORTED, States::fullOfNodes, 1, 0, 1, 1, 0);
        });
        holds(TERMS, FIRST_DOCUMENTED, () -> {
            refuseLeak(INDEX, States::working, 5, 0);
            refuseLeak(INDEX, States::working, -1, 31);
            // A node that there is not has no leak either.
            refused("repair(5)", INDEX, States::working, x -> x.repair(5));
        });
    }

    private static void refuseBoth(
            Class<? extends RuntimeException> due, Supplier<SapNetwork> state, int parent) {
        refuseJunction(due, state, parent, 0);
        refuseTap(due, state, parent, 0, 1, 1, 0);
    }

    private static void refuseJunction(Class<? extends RuntimeException> due,
            Supplier<SapNetwork> state, int parent, int drop) {
        refused("addJunction(" + parent + ", " + drop + ")", due, state,
                x -> x.addJunction(parent, drop));
    }

    private static void refuseTap(Class<? extends RuntimeException> due,
            Supplier<SapNetwork> state, int parent, int drop, int rate, int sweetness, int shade) {
        String call = "addTap(" + parent + ", " + drop + ", " + rate + ", " + sweetness + ", "
                + shade + ")";
        refused(call, due, state, x -> x.addTap(parent, drop, rate, sweetness, shade));
    }

    private static void refuseSetting(Supplier<SapNetwork> state, int setting) {
        refused("setPump(" + setting + ")", ARGUMENT, state, x -> x.setPump(setting));
    }

    private static void refuseLeak(Class<? extends RuntimeException> due,
            Supplier<SapNetwork> state, int node, int size) {
        refused("addLeak(" + node + ", " + size + ")", due, state, x -> x.addLeak(node, size));
    }
}
