/** States of the network that tests begin with; each is made anew, and in some 200 calls at most. */
final class States {
    private States() {}

    static SapNetwork fresh() {
        return new SapNetwork();
    }

    /**
     * Sap is everywhere: of 49 of volume 12 are in the tank 0 and 4 in the tank 1, 3 are in the raw
     * pan, 1 is the batch 0, 9 are steam and 20 are lost. The node 1 is a junction with a leak, 2
     * and 3 are taps, and 4 is a junction; 4 hours have passed.
     */
    static SapNetwork working() {
        SapNetwork x = new SapNetwork();
        x.setPump(60);
        x.addJunction(0, 5);
        x.addTap(1, 4, 10, 2, 0);
        x.addTap(1, 20, 7, 3, 4);
        x.addJunction(0, 1);
        x.addLeak(1, 3);
        x.addTank(20);
        x.addTank(9);
        x.setFire(1);
        x.pass(-5);
        // The vacuums are 45 and 29: 10 * 65 / 20 = 32 and 7 * 49 / 20 = 17, with the sugar 115.
        x.pass(4);
        x.load(1, 5);
        x.pass(-1);
        x.draw();
        x.load(0, 8);
        x.pass(-2);
        return x;
    }

    /** All 20 nodes: the node 1 is a tap, all others but the pump are junctions. */
    static SapNetwork fullOfNodes() {
        SapNetwork x = new SapNetwork();
        x.setPump(70);
        x.addTap(0, 1, 5, 2, 0);
        for (int node = 2; node < 20; node++) {
            x.addJunction(0, 1);
        }
        return x;
    }

    /** All 20 nodes in one chain, each a tube with a drop of 1 below the one before, 19 a tap. */
    static SapNetwork deepest() {
        SapNetwork x = new SapNetwork();
        x.setPump(99);
        for (int node = 1; node < 19; node++) {
            x.addJunction(node - 1, 1);
        }
        x.addTap(18, 1, 20, 1, 0);
        return x;
    }

    /**
     * All 200 hours: in each warm one the tap 1 gives 70, and 0 in each of frost. The pan has 500
     * above a fire, so that one hour more would be seen in it.
     */
    static SapNetwork fullOfHours() {
        SapNetwork x = new SapNetwork();
        x.setPump(50);
        x.addTap(0, 0, 20, 1, 0);
        x.addTank(5000);
        for (int hour = 0; hour < 200; hour++) {
            x.pass(hour % 2 == 0 ? -1 : 1);
        }
        x.load(0, 500);
        x.setFire(1);
        return x;
    }

    /** All 4 tanks, with the capacities 1, 2, 3 and 4, after an hour in which 3 came, sugar 18. */
    static SapNetwork fullOfTanks() {
        SapNetwork x = new SapNetwork();
        x.addTap(0, 0, 3, 6, 0);
        for (int capacity = 1; capacity <= 4; capacity++) {
            x.addTank(capacity);
        }
        x.pass(-1);
        x.pass(1);
        return x;
    }

    /** All 30 batches, each of 1 of volume; the pan is empty, and the tank 0 full as in pantry(). */
    static SapNetwork fullOfBatches() {
        SapNetwork x = pantry();
        for (int batch = 0; batch < 30; batch++) {
            x.load(1, 1);
            x.draw();
        }
        return x;
    }

    /**
     * Two tanks of sap that can be told apart: the tank 0 has 595 of the sweetness 6, and the tank
     * 1 has 119 of the sweetness 1. Nothing is lost, 4 hours have passed; in a frost none comes.
     */
    static SapNetwork pantry() {
        SapNetwork x = new SapNetwork();
        x.setPump(99);
        for (int tap = 0; tap < 5; tap++) {
            x.addTap(0, 0, 20, 6, 5);
        }
        x.addTank(595);
        x.pass(4);
        x.pass(5);
        x.addTank(200);
        x.addTap(0, 0, 20, 1, 0);
        x.pass(-1);
        x.pass(0);
        return x;
    }

    /** A pan with so much of the sweetness 6, of 0 to 500, and of the sweetness 1, of 0 to 119. */
    static SapNetwork pan(int sweet, int plain) {
        SapNetwork x = pantry();
        if (sweet > 0) {
            x.load(0, sweet);
        }
        if (plain > 0) {
            x.load(1, plain);
        }
        return x;
    }

    /** Lets so many hours of frost pass: no tap gives sap in them, and the pan boils. */
    static SapNetwork boiled(SapNetwork x, int hours) {
        for (int hour = 0; hour < hours; hour++) {
            x.pass(-30);
        }
        return x;
    }

    /** After each frost 15 of volume come with 40 of sugar; the tanks are new. */
    static SapNetwork sweet(int... capacities) {
        SapNetwork x = new SapNetwork();
        x.addTap(0, 0, 10, 1, 0);
        x.addTap(0, 0, 5, 6, 0);
        for (int capacity : capacities) {
            x.addTank(capacity);
        }
        return x;
    }

    /** Lets a frost pass, and a warm hour. */
    static SapNetwork thawed(SapNetwork x) {
        x.pass(-1);
        x.pass(1);
        return x;
    }
}
