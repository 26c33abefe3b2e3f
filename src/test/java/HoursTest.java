import java.util.NoSuchElementException;

/** Promises 13 to 18: hours and taps. */
final class HoursTest {
    public static void main(String[] args) {
        volumesAreRoundedDown();
        shadeAndFrost();
        chargeHasAnEnd();
        leaksTakeSap();
        temperatures();
        allHours();
        sapOfLaterTap();
        yields();
        yieldsOfFullNetwork();
        refusals();
        Check.end("HoursTest");
    }

    private static void volumesAreRoundedDown() {
        SapNetwork x = new SapNetwork();
        x.setPump(99);
        x.addTap(0, 0, 20, 1, 0);
        x.addTap(0, 3, 7, 1, 0);
        Check.due("13 frost", x.pass(-1), 0);
        // 20 * 119 / 20 = 119 and 7 * 116 / 20 = 40.6
        Check.due("13 charged", x.pass(0), 159);
        Check.due("16 charged", x.sapOf(1, 1), 119);
        Check.due("16 charged", x.sapOf(2, 1), 40);
        // 20 * 99 / 100 = 19.8 and 7 * 96 / 100 = 6.72
        Check.due("13 uncharged", x.pass(30), 25);
        Check.due("16 uncharged", x.sapOf(1, 2), 19);
        Check.due("16 uncharged", x.sapOf(2, 2), 6);
        Check.due("16 frost", x.sapOf(1, 0), 0);
        Check.due("17 total", x.totalOf(1), 138);
        Check.due("17 total", x.totalOf(2), 46);
        Check.due("14 hours", x.hours(), 3);
        Check.due("35 total", x.totalSap(), 184L);
        x.setPump(0);
        Check.due("13 without vacuum", x.pass(30), 0);
        x.pass(-30);
        // 20 * 20 / 20 = 20 and 7 * 20 / 20 = 7
        Check.due("13 without vacuum, charged", x.pass(30), 27);
    }

    private static void shadeAndFrost() {
        SapNetwork x = new SapNetwork();
        x.addTap(0, 0, 10, 1, 0);
        x.addTap(0, 0, 6, 1, 3);
        x.addTap(0, 0, 3, 1, 5);
        Check.due("13 all freeze", x.pass(-1), 0);
        charges(x, 1, 1, 1);
        Check.due("13 the first gives", x.pass(2), 10);
        charges(x, 0, 2, 2);
        Check.due("13 the second too", x.pass(3), 6);
        charges(x, 0, 1, 3);
        Check.due("13 still frost", x.pass(4), 6);
        charges(x, 0, 0, 4);
        Check.due("13 the third alone", x.pass(5), 3);
        charges(x, 0, 0, 3);
        Check.due("13 zero degrees", x.pass(0), 0);
        charges(x, 0, 1, 4);
    }

    private static void charges(SapNetwork x, int first, int second, int third) {
        Check.due("15 charge", x.charge(1), first);
        Check.due("15 charge", x.charge(2), second);
        Check.due("15 charge", x.charge(3), third);
    }

    private static void chargeHasAnEnd() {
        SapNetwork x = new SapNetwork();
        x.addTap(0, 0, 4, 1, 0);
        for (int hour = 1; hour <= 12; hour++) {
            x.pass(-5);
            Check.due("15 after " + hour, x.charge(1), Math.min(hour, 9));
        }
        for (int hour = 1; hour <= 9; hour++) {
            Check.due("13 charged", x.pass(5), 4);
            Check.due("15 left", x.charge(1), 9 - hour);
        }
        Check.due("13 used up", x.pass(5), 0);
        Check.due("15 used up", x.charge(1), 0);
    }

    private static void leaksTakeSap() {
        SapNetwork x = new SapNetwork();
        x.setPump(80);
        x.addTap(0, 10, 20, 1, 0);
        Check.due("13 no leak", x.pass(1), 14);
        x.addLeak(1, 20);
        // The vacuum is 80 - 20 - 10 - 20 = 30.
        Check.due("13 leak", x.pass(1), 6);
        x.pass(-1);
        Check.due("13 leak, charged", x.pass(1), 50);
    }

    private static void temperatures() {
        SapNetwork x = new SapNetwork();
        Check.due("13 coldest", x.pass(-30), 0);
        Check.due("13 warmest", x.pass(30), 0);
        int[] wrong = {-31, 31, Integer.MIN_VALUE, Integer.MAX_VALUE};
        for (int temperature : wrong) {
            Check.refused("13 " + temperature, x, IllegalArgumentException.class,
                    () -> x.pass(temperature));
        }
        Check.due("14 hours", x.hours(), 2);
    }

    private static void allHours() {
        SapNetwork x = new SapNetwork();
        x.setPump(50);
        x.addTap(0, 0, 20, 1, 0);
        for (int hour = 0; hour < 200; hour++) {
            Check.due("14 hours", x.hours(), hour);
            x.pass(hour % 2 == 0 ? -1 : 1);
        }
        Check.due("16 last", x.sapOf(1, 199), 70);
        Check.due("17 all", x.totalOf(1), 7000);
        Check.refused("13 over", x, IllegalStateException.class, () -> x.pass(0));
        Check.refused("13 over", x, IllegalArgumentException.class, () -> x.pass(31));
        Check.refused("16 over", x, NoSuchElementException.class, () -> x.sapOf(1, 200));
        Check.due("14 hours", x.hours(), 200);
    }

    private static void sapOfLaterTap() {
        SapNetwork x = new SapNetwork();
        x.setPump(50);
        x.addTap(0, 0, 10, 1, 0);
        x.pass(1);
        x.pass(1);
        x.addTap(0, 0, 20, 1, 0);
        Check.due("16 before it was added", x.sapOf(2, 0), 0);
        Check.due("16 before it was added", x.sapOf(2, 1), 0);
        x.pass(1);
        Check.due("16 later", x.sapOf(2, 2), 10);
        Check.due("16 earlier tap", x.sapOf(1, 0), 5);
        Check.due("17 earlier tap", x.totalOf(1), 15);
        Check.due("17 later tap", x.totalOf(2), 10);
    }

    private static void yields() {
        SapNetwork x = new SapNetwork();
        Check.refused("18 no taps", x, NoSuchElementException.class, () -> x.tapByYield(0));
        x.setPump(50);
        x.addTap(0, 0, 4, 1, 0);
        x.addJunction(0, 0);
        x.addTap(2, 0, 10, 1, 0);
        x.addTap(2, 0, 4, 1, 0);
        x.addTap(2, 0, 1, 1, 0);
        ranks(x, 1, 3, 4, 5);
        x.pass(1);
        ranks(x, 3, 1, 4, 5);
        x.addLeak(1, 5);
        x.pass(1);
        // The vacuum is 45, and 40 for the node 1: 4 + 2, 2 + 1, 2 + 1 and 0.
        ranks(x, 3, 1, 4, 5);
        x.addLeak(1, 20);
        x.pass(10);
        // The vacuum is 30, and 10 for the node 1.
        ranks(x, 3, 4, 1, 5);
        Check.refused("18 rank", x, NoSuchElementException.class, () -> x.tapByYield(4));
        Check.refused("18 rank", x, NoSuchElementException.class, () -> x.tapByYield(-1));
        Check.refused("18 rank", x, NoSuchElementException.class,
                () -> x.tapByYield(Integer.MAX_VALUE));
    }

    private static void yieldsOfFullNetwork() {
        SapNetwork x = new SapNetwork();
        for (int node = 1; node < 20; node++) {
            x.addTap(0, 0, node, 1, 0);
        }
        x.pass(-1);
        Check.due("13 all taps", x.pass(1), 190);
        for (int rank = 0; rank < 19; rank++) {
            Check.due("18 rank " + rank, x.tapByYield(rank), 19 - rank);
        }
        Check.refused("18 rank", x, NoSuchElementException.class, () -> x.tapByYield(19));
    }

    private static void ranks(SapNetwork x, int... due) {
        for (int rank = 0; rank < due.length; rank++) {
            Check.due("18 rank " + rank, x.tapByYield(rank), due[rank]);
        }
    }

    private static void refusals() {
        SapNetwork x = new SapNetwork();
        x.addTap(0, 0, 4, 1, 0);
        x.addJunction(0, 0);
        x.pass(1);
        int[] wrong = {-1, 3, 20, Integer.MAX_VALUE, Integer.MIN_VALUE};
        for (int node : wrong) {
            Check.refused("15", x, IndexOutOfBoundsException.class, () -> x.charge(node));
            Check.refused("16", x, IndexOutOfBoundsException.class, () -> x.sapOf(node, 0));
            Check.refused("16", x, IndexOutOfBoundsException.class, () -> x.sapOf(node, 9));
            Check.refused("17", x, IndexOutOfBoundsException.class, () -> x.totalOf(node));
        }
        for (int node = 0; node <= 2; node += 2) {
            int noTap = node;
            Check.refused("15", x, UnsupportedOperationException.class, () -> x.charge(noTap));
            Check.refused("16", x, UnsupportedOperationException.class, () -> x.sapOf(noTap, 0));
            Check.refused("16", x, UnsupportedOperationException.class, () -> x.sapOf(noTap, 9));
            Check.refused("17", x, UnsupportedOperationException.class, () -> x.totalOf(noTap));
        }
        Check.refused("16 hour", x, NoSuchElementException.class, () -> x.sapOf(1, 1));
        Check.refused("16 hour", x, NoSuchElementException.class, () -> x.sapOf(1, -1));
        Check.refused("16 hour", x, NoSuchElementException.class,
                () -> x.sapOf(1, Integer.MAX_VALUE));
    }
}
