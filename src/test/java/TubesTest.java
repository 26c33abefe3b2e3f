import java.util.NoSuchElementException;

/** Promises 1 to 12 in ordinary runs: tubes and leaks. */
final class TubesTest {
    public static void main(String[] args) {
        leaks();
        vacuumOfPump();
        vacuumAlongTubes();
        suspects();
        equalSuspects();
        leastLeak();
        readingsAreNew();
        Check.end("TubesTest");
    }

    private static void leaks() {
        SapNetwork x = new SapNetwork();
        x.setPump(99);
        x.addTap(0, 0, 1, 1, 0);
        Check.due("5 none before", x.addLeak(1, 1), 0);
        Check.due("5 replaced", x.addLeak(1, 30), 1);
        Check.due("5 pump", x.addLeak(0, 7), 0);
        Check.due("5 pump replaced", x.addLeak(0, 8), 7);
        Check.due("6 pump", x.repair(0), 8);
        Check.due("6 tap", x.repair(1), 30);
        Check.thrown("6 none left", NoSuchElementException.class, () -> x.repair(1));
        Check.thrown("6 none left", NoSuchElementException.class, () -> x.repair(0));
        Check.due("6 none before", x.addLeak(1, 3), 0);
    }

    private static void vacuumOfPump() {
        SapNetwork x = new SapNetwork();
        x.setPump(90);
        x.addJunction(0, 5);
        x.addTap(1, 10, 1, 1, 0);
        vacuum(x, 0, 90, 90);
        vacuum(x, 1, 85, 85);
        vacuum(x, 2, 75, 75);
        x.addLeak(0, 10);
        vacuum(x, 0, 70, 90);
        vacuum(x, 1, 65, 85);
        x.addLeak(2, 6);
        vacuum(x, 0, 64, 90);
        vacuum(x, 1, 59, 85);
        vacuum(x, 2, 43, 75);
        x.repair(0);
        vacuum(x, 0, 84, 90);
        vacuum(x, 2, 63, 75);
    }

    private static void vacuumAlongTubes() {
        SapNetwork x = new SapNetwork();
        x.setPump(60);
        x.addJunction(0, 5);
        x.addTap(1, 4, 10, 2, 0);
        x.addTap(1, 20, 7, 3, 4);
        x.addJunction(1, 10);
        x.addTap(4, 0, 20, 6, 5);
        x.addLeak(4, 3);
        int[] due = {57, 52, 48, 32, 39, 39};
        int[] expected = {60, 55, 51, 35, 45, 45};
        int[] depths = {0, 1, 2, 2, 2, 3};
        for (int node = 0; node < 6; node++) {
            vacuum(x, node, due[node], expected[node]);
            Check.due("12 depth", x.depth(node), depths[node]);
        }
    }

    private static void suspects() {
        SapNetwork x = new SapNetwork();
        x.setPump(60);
        x.addJunction(0, 5);
        x.addTap(1, 4, 10, 2, 0);
        x.addJunction(0, 1);
        x.addTap(3, 1, 10, 2, 0);
        Check.thrown("11 no leak", NoSuchElementException.class, () -> x.suspect(0));
        x.addLeak(2, 3);
        x.addLeak(3, 8);
        // The losses are 11, 11, 14, 19, 19; the own losses 11, 0, 3, 8, 0.
        Check.due("11 first", x.suspect(0), 0);
        Check.due("11 second", x.suspect(1), 3);
        Check.due("11 third", x.suspect(2), 2);
        Check.thrown("11 rank", NoSuchElementException.class, () -> x.suspect(3));
        Check.thrown("11 rank", NoSuchElementException.class, () -> x.suspect(-1));
        Check.thrown("11 rank", NoSuchElementException.class,
                () -> x.suspect(Integer.MIN_VALUE));
        x.repair(3);
        Check.due("11 then", x.suspect(0), 0);
        Check.due("11 then", x.suspect(1), 2);
        Check.thrown("11 rank", NoSuchElementException.class, () -> x.suspect(2));
    }

    private static void equalSuspects() {
        SapNetwork x = new SapNetwork();
        x.setPump(99);
        x.addJunction(0, 0);
        x.addJunction(0, 0);
        x.addJunction(0, 0);
        x.addLeak(3, 4);
        x.addLeak(1, 4);
        x.addLeak(2, 5);
        int[] due = {0, 2, 1, 3};
        for (int rank = 0; rank < due.length; rank++) {
            Check.due("11 equal losses", x.suspect(rank), due[rank]);
        }
        // With the setting 8 the pump alone loses all: what others would lose is gone before.
        x.setPump(8);
        Check.due("11 all lost", x.suspect(0), 0);
        Check.thrown("11 all lost", NoSuchElementException.class, () -> x.suspect(1));
    }

    private static void leastLeak() {
        SapNetwork x = new SapNetwork();
        x.setPump(50);
        x.addJunction(0, 0);
        x.addLeak(1, 1);
        Check.due("11 the pump loses 1", x.suspect(0), 0);
        Check.due("11 the node too", x.suspect(1), 1);
        Check.due("6 the least leak", x.repair(1), 1);
        Check.thrown("11 repaired", NoSuchElementException.class, () -> x.suspect(0));
    }

    /** Each reading comes at once after a change, so that none lives on what another one found. */
    private static void readingsAreNew() {
        SapNetwork x = new SapNetwork();
        x.addJunction(0, 2);
        x.setPump(50);
        Check.due("10 at once", x.expectedVacuum(1), 48);
        x.setPump(60);
        Check.due("9 at once", x.vacuumBySweep(1), 58);
        x.setPump(70);
        Check.due("8 at once", x.vacuum(1), 68);
        x.addLeak(1, 3);
        Check.due("11 at once", x.suspect(1), 1);
    }

    private static void vacuum(SapNetwork x, int node, int due, int expected) {
        Check.due("8 vacuum(" + node + ")", x.vacuum(node), due);
        Check.due("9 vacuumBySweep(" + node + ")", x.vacuumBySweep(node), due);
        Check.due("10 expectedVacuum(" + node + ")", x.expectedVacuum(node), expected);
    }
}
