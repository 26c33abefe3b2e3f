import java.util.NoSuchElementException;

/** Promises 1 to 12: a new object, tubes and leaks. */
final class TubesTest {
    public static void main(String[] args) {
        newObject();
        twoObjectsShareNothing();
        addJunction();
        addTap();
        fullNetwork();
        setPump();
        leaks();
        vacuumOfPump();
        vacuumAlongTubes();
        vacuumIsNeverBelowZero();
        deepChain();
        suspects();
        equalSuspects();
        leastLeak();
        suspectsOfFullNetwork();
        readingsAreNew();
        wrongNodes();
        Check.end("TubesTest");
    }

    private static void newObject() {
        SapNetwork x = new SapNetwork();
        Check.due("1 nodes", x.nodes(), 1);
        Check.due("1 hours", x.hours(), 0);
        Check.due("1 vacuum", x.vacuum(0), 0);
        Check.due("1 vacuumBySweep", x.vacuumBySweep(0), 0);
        Check.due("1 expectedVacuum", x.expectedVacuum(0), 0);
        Check.due("1 depth", x.depth(0), 0);
        Check.due("1 panVolume", x.panVolume(), 0);
        Check.due("1 panSugar", x.panSugar(), 0);
        Check.due("1 isReady", x.isReady(), false);
        Check.due("1 batches", x.batches(), 0);
        Check.due("1 totalSap", x.totalSap(), 0L);
        Check.due("1 steam", x.steam(), 0L);
        Check.due("1 loss", x.loss(), 0L);
        Check.due("1 lossByBalance", x.lossByBalance(), 0L);
        Check.due("1 lostSugar", x.lostSugar(), 0L);
        Check.due("1 isBalanced", x.isBalanced(), true);
        Check.refused("1 tankVolume(0)", x, IndexOutOfBoundsException.class, () -> x.tankVolume(0));
        Check.refused("1 charge(0)", x, UnsupportedOperationException.class, () -> x.charge(0));
        Check.refused("1 repair(0)", x, NoSuchElementException.class, () -> x.repair(0));
        Check.due("1 setting", x.setPump(5), 0);
        Check.due("1 fire", x.setFire(5), 0);
    }

    private static void twoObjectsShareNothing() {
        SapNetwork one = new SapNetwork();
        SapNetwork other = new SapNetwork();
        String before = Readings.of(other);
        one.setPump(50);
        one.addTap(0, 1, 2, 3, 0);
        one.addTank(10);
        one.addLeak(0, 1);
        one.pass(5);
        Check.due("1 another object", Readings.of(other), before);
    }

    private static void addJunction() {
        SapNetwork x = new SapNetwork();
        Check.due("2 first", x.addJunction(0, 0), 1);
        Check.due("2 second", x.addJunction(1, 20), 2);
        int tap = x.addTap(0, 0, 1, 1, 0);
        Check.due("2 nodes", x.nodes(), 4);
        Check.due("2 depth", x.depth(2), 2);
        refuseJunction(x, IndexOutOfBoundsException.class, -1, 5);
        refuseJunction(x, IndexOutOfBoundsException.class, 4, 5);
        refuseJunction(x, IndexOutOfBoundsException.class, Integer.MIN_VALUE, 5);
        refuseJunction(x, IndexOutOfBoundsException.class, Integer.MAX_VALUE, 5);
        refuseJunction(x, IndexOutOfBoundsException.class, 20, 5);
        refuseJunction(x, IndexOutOfBoundsException.class, 4, 21);
        refuseJunction(x, IllegalArgumentException.class, 0, 21);
        refuseJunction(x, IllegalArgumentException.class, 0, -1);
        refuseJunction(x, IllegalArgumentException.class, tap, -1);
        refuseJunction(x, UnsupportedOperationException.class, tap, 20);
    }

    private static void addTap() {
        SapNetwork x = new SapNetwork();
        Check.due("3 least", x.addTap(0, 0, 1, 1, 0), 1);
        Check.due("3 most", x.addTap(0, 20, 20, 6, 5), 2);
        Check.due("3 charge", x.charge(2), 0);
        Check.due("3 total", x.totalOf(2), 0);
        refuseTap(x, IndexOutOfBoundsException.class, 3, 0, 1, 1, 0);
        refuseTap(x, IndexOutOfBoundsException.class, -1, 0, 1, 1, 0);
        refuseTap(x, IndexOutOfBoundsException.class, Integer.MAX_VALUE, 99, 99, 99, 99);
        refuseTap(x, IllegalArgumentException.class, 0, -1, 1, 1, 0);
        refuseTap(x, IllegalArgumentException.class, 0, 21, 1, 1, 0);
        refuseTap(x, IllegalArgumentException.class, 0, 0, 0, 1, 0);
        refuseTap(x, IllegalArgumentException.class, 0, 0, 21, 1, 0);
        refuseTap(x, IllegalArgumentException.class, 0, 0, 1, 0, 0);
        refuseTap(x, IllegalArgumentException.class, 0, 0, 1, 7, 0);
        refuseTap(x, IllegalArgumentException.class, 0, 0, 1, 1, -1);
        refuseTap(x, IllegalArgumentException.class, 0, 0, 1, 1, 6);
        refuseTap(x, IllegalArgumentException.class, 1, 0, 1, 1, 6);
        refuseTap(x, IllegalArgumentException.class, 0, 0, Integer.MIN_VALUE, 1, 0);
        refuseTap(x, UnsupportedOperationException.class, 1, 0, 1, 1, 0);
    }

    private static void fullNetwork() {
        SapNetwork x = new SapNetwork();
        int tap = x.addTap(0, 0, 1, 1, 0);
        for (int node = 2; node < 20; node++) {
            Check.due("2 node", x.addJunction(0, 0), node);
        }
        Check.due("7 all nodes", x.nodes(), 20);
        refuseJunction(x, IllegalStateException.class, 0, 0);
        refuseJunction(x, IllegalStateException.class, 19, 20);
        refuseJunction(x, UnsupportedOperationException.class, tap, 0);
        refuseJunction(x, IllegalArgumentException.class, tap, 21);
        refuseJunction(x, IndexOutOfBoundsException.class, 20, 21);
        refuseTap(x, IllegalStateException.class, 0, 0, 1, 1, 0);
        refuseTap(x, UnsupportedOperationException.class, tap, 0, 1, 1, 0);
        refuseTap(x, IllegalArgumentException.class, tap, 0, 1, 7, 0);
        refuseTap(x, IndexOutOfBoundsException.class, 20, 0, 1, 7, 0);
    }

    private static void setPump() {
        SapNetwork x = new SapNetwork();
        Check.due("4 before", x.setPump(99), 0);
        Check.due("4 before", x.setPump(0), 99);
        Check.due("4 before", x.setPump(40), 0);
        Check.refused("4 -1", x, IllegalArgumentException.class, () -> x.setPump(-1));
        Check.refused("4 100", x, IllegalArgumentException.class, () -> x.setPump(100));
        Check.due("4 unchanged", x.setPump(40), 40);
    }

    private static void leaks() {
        SapNetwork x = new SapNetwork();
        x.setPump(99);
        x.addTap(0, 0, 1, 1, 0);
        Check.due("5 none before", x.addLeak(1, 1), 0);
        Check.due("5 replaced", x.addLeak(1, 30), 1);
        Check.due("5 pump", x.addLeak(0, 7), 0);
        Check.due("5 pump replaced", x.addLeak(0, 8), 7);
        Check.refused("5 node", x, IndexOutOfBoundsException.class, () -> x.addLeak(2, 5));
        Check.refused("5 node", x, IndexOutOfBoundsException.class, () -> x.addLeak(-1, 0));
        Check.refused("5 size", x, IllegalArgumentException.class, () -> x.addLeak(1, 0));
        Check.refused("5 size", x, IllegalArgumentException.class, () -> x.addLeak(1, 31));
        Check.refused("5 size", x, IllegalArgumentException.class, () -> x.addLeak(0, -5));
        Check.due("6 pump", x.repair(0), 8);
        Check.due("6 tap", x.repair(1), 30);
        Check.refused("6 none left", x, NoSuchElementException.class, () -> x.repair(1));
        Check.refused("6 none left", x, NoSuchElementException.class, () -> x.repair(0));
        Check.refused("6 node", x, IndexOutOfBoundsException.class, () -> x.repair(2));
        Check.refused("6 node", x, IndexOutOfBoundsException.class, () -> x.repair(-1));
        Check.due("6 none before", x.addLeak(1, 3), 0);
    }

    private static void vacuumOfPump() {
        SapNetwork x = new SapNetwork();
        x.setPump(90);
        x.addJunction(0, 5);
        x.addTap(1, 10, 1, 1, 0);
        vacuum(x, 0, 90, 90);
        vacuum(x, 1, 85, 85);
        vacuum(x, 2, 75, 75);
        x.addLeak(0, 10);
        vacuum(x, 0, 70, 90);
        vacuum(x, 1, 65, 85);
        x.addLeak(2, 6);
        vacuum(x, 0, 64, 90);
        vacuum(x, 1, 59, 85);
        vacuum(x, 2, 43, 75);
        x.repair(0);
        vacuum(x, 0, 84, 90);
        vacuum(x, 2, 63, 75);
    }

    private static void vacuumAlongTubes() {
        SapNetwork x = new SapNetwork();
        x.setPump(60);
        x.addJunction(0, 5);
        x.addTap(1, 4, 10, 2, 0);
        x.addTap(1, 20, 7, 3, 4);
        x.addJunction(1, 10);
        x.addTap(4, 0, 20, 6, 5);
        x.addLeak(4, 3);
        int[] due = {57, 52, 48, 32, 39, 39};
        int[] expected = {60, 55, 51, 35, 45, 45};
        int[] depths = {0, 1, 2, 2, 2, 3};
        for (int node = 0; node < 6; node++) {
            vacuum(x, node, due[node], expected[node]);
            Check.due("12 depth", x.depth(node), depths[node]);
        }
    }

    private static void vacuumIsNeverBelowZero() {
        SapNetwork x = new SapNetwork();
        x.setPump(20);
        x.addLeak(0, 30);
        x.addJunction(0, 19);
        x.addJunction(1, 1);
        x.addJunction(2, 1);
        vacuum(x, 0, 0, 20);
        vacuum(x, 1, 0, 1);
        vacuum(x, 2, 0, 0);
        vacuum(x, 3, 0, 0);
        x.addLeak(0, 10);
        vacuum(x, 0, 0, 20);
        x.addLeak(0, 9);
        vacuum(x, 0, 2, 20);
        vacuum(x, 1, 0, 1);
    }

    private static void deepChain() {
        SapNetwork x = new SapNetwork();
        x.setPump(99);
        for (int node = 1; node < 20; node++) {
            x.addJunction(node - 1, node % 2);
        }
        x.addLeak(19, 1);
        vacuum(x, 19, 87, 89);
        Check.due("12 deepest", x.depth(19), 19);
    }

    private static void suspects() {
        SapNetwork x = new SapNetwork();
        x.setPump(60);
        x.addJunction(0, 5);
        x.addTap(1, 4, 10, 2, 0);
        x.addJunction(0, 1);
        x.addTap(3, 1, 10, 2, 0);
        Check.refused("11 no leak", x, NoSuchElementException.class, () -> x.suspect(0));
        x.addLeak(2, 3);
        x.addLeak(3, 8);
        // The losses are 11, 11, 14, 19, 19; the own losses 11, 0, 3, 8, 0.
        Check.due("11 first", x.suspect(0), 0);
        Check.due("11 second", x.suspect(1), 3);
        Check.due("11 third", x.suspect(2), 2);
        Check.refused("11 rank", x, NoSuchElementException.class, () -> x.suspect(3));
        Check.refused("11 rank", x, NoSuchElementException.class, () -> x.suspect(-1));
        Check.refused("11 rank", x, NoSuchElementException.class,
                () -> x.suspect(Integer.MIN_VALUE));
        x.repair(3);
        Check.due("11 then", x.suspect(0), 0);
        Check.due("11 then", x.suspect(1), 2);
        Check.refused("11 rank", x, NoSuchElementException.class, () -> x.suspect(2));
    }

    private static void equalSuspects() {
        SapNetwork x = new SapNetwork();
        x.setPump(99);
        x.addJunction(0, 0);
        x.addJunction(0, 0);
        x.addJunction(0, 0);
        x.addLeak(3, 4);
        x.addLeak(1, 4);
        x.addLeak(2, 5);
        int[] due = {0, 2, 1, 3};
        for (int rank = 0; rank < due.length; rank++) {
            Check.due("11 equal losses", x.suspect(rank), due[rank]);
        }
        // With the setting 8 the pump alone loses all: what others would lose is gone before.
        x.setPump(8);
        Check.due("11 all lost", x.suspect(0), 0);
        Check.refused("11 all lost", x, NoSuchElementException.class, () -> x.suspect(1));
    }

    private static void leastLeak() {
        SapNetwork x = new SapNetwork();
        x.setPump(50);
        x.addJunction(0, 0);
        x.addLeak(1, 1);
        Check.due("11 the pump loses 1", x.suspect(0), 0);
        Check.due("11 the node too", x.suspect(1), 1);
        Check.due("6 the least leak", x.repair(1), 1);
        Check.refused("11 repaired", x, NoSuchElementException.class, () -> x.suspect(0));
    }

    private static void suspectsOfFullNetwork() {
        SapNetwork x = new SapNetwork();
        x.setPump(99);
        for (int node = 1; node < 20; node++) {
            x.addJunction(0, 0);
            x.addLeak(node, 1);
        }
        for (int rank = 0; rank < 20; rank++) {
            Check.due("11 all nodes", x.suspect(rank), rank);
        }
        Check.refused("11 rank", x, NoSuchElementException.class, () -> x.suspect(20));
    }

    /** Each reading comes at once after a change, so that none lives on what another one found. */
    private static void readingsAreNew() {
        SapNetwork x = new SapNetwork();
        x.addJunction(0, 2);
        x.setPump(50);
        Check.due("10 at once", x.expectedVacuum(1), 48);
        x.setPump(60);
        Check.due("9 at once", x.vacuumBySweep(1), 58);
        x.setPump(70);
        Check.due("8 at once", x.vacuum(1), 68);
        x.addLeak(1, 3);
        Check.due("11 at once", x.suspect(1), 1);
    }

    private static void wrongNodes() {
        SapNetwork x = new SapNetwork();
        x.addJunction(0, 0);
        int[] wrong = {-1, 2, 19, 20, Integer.MAX_VALUE, Integer.MIN_VALUE};
        for (int node : wrong) {
            Check.refused("8", x, IndexOutOfBoundsException.class, () -> x.vacuum(node));
            Check.refused("9", x, IndexOutOfBoundsException.class, () -> x.vacuumBySweep(node));
            Check.refused("10", x, IndexOutOfBoundsException.class, () -> x.expectedVacuum(node));
            Check.refused("12", x, IndexOutOfBoundsException.class, () -> x.depth(node));
        }
    }

    private static void vacuum(SapNetwork x, int node, int due, int expected) {
        Check.due("8 vacuum(" + node + ")", x.vacuum(node), due);
        Check.due("9 vacuumBySweep(" + node + ")", x.vacuumBySweep(node), due);
        Check.due("10 expectedVacuum(" + node + ")", x.expectedVacuum(node), expected);
    }

    private static void refuseJunction(
            SapNetwork x, Class<? extends Exception> due, int parent, int drop) {
        Check.refused("2 (" + parent + ", " + drop + ")", x, due,
                () -> x.addJunction(parent, drop));
    }

    private static void refuseTap(SapNetwork x, Class<? extends Exception> due,
            int parent, int drop, int rate, int sweetness, int shade) {
        String what = "3 (" + parent + ", " + drop + ", " + rate + ", " + sweetness + ", " + shade;
        Check.refused(what + ")", x, due, () -> x.addTap(parent, drop, rate, sweetness, shade));
    }
}
