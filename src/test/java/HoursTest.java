import java.util.NoSuchElementException;

/** Promises 13 to 18 in ordinary runs: hours and taps. */
final class HoursTest {
    public static void main(String[] args) {
        volumesAreRoundedDown();
        shadeAndFrost();
        leaksTakeSap();
        yields();
        Check.end("HoursTest");
    }

    private static void volumesAreRoundedDown() {
        SapNetwork x = new SapNetwork();
        x.setPump(99);
        x.addTap(0, 0, 20, 1, 0);
        x.addTap(0, 3, 7, 1, 0);
        Check.due("13 frost", x.pass(-1), 0);
        // 20 * 119 / 20 = 119 and 7 * 116 / 20 = 40.6
        Check.due("13 charged", x.pass(0), 159);
        Check.due("16 charged", x.sapOf(1, 1), 119);
        Check.due("16 charged", x.sapOf(2, 1), 40);
        // 20 * 99 / 100 = 19.8 and 7 * 96 / 100 = 6.72
        Check.due("13 uncharged", x.pass(30), 25);
        Check.due("16 uncharged", x.sapOf(1, 2), 19);
        Check.due("16 uncharged", x.sapOf(2, 2), 6);
        Check.due("16 frost", x.sapOf(1, 0), 0);
        Check.due("17 total", x.totalOf(1), 138);
        Check.due("17 total", x.totalOf(2), 46);
        Check.due("14 hours", x.hours(), 3);
        Check.due("35 total", x.totalSap(), 184L);
        x.setPump(0);
        Check.due("13 without vacuum", x.pass(30), 0);
        x.pass(-30);
        // 20 * 20 / 20 = 20 and 7 * 20 / 20 = 7
        Check.due("13 without vacuum, charged", x.pass(30), 27);
    }

    private static void shadeAndFrost() {
        SapNetwork x = new SapNetwork();
        x.addTap(0, 0, 10, 1, 0);
        x.addTap(0, 0, 6, 1, 3);
        x.addTap(0, 0, 3, 1, 5);
        Check.due("13 all freeze", x.pass(-1), 0);
        charges(x, 1, 1, 1);
        Check.due("13 the first gives", x.pass(2), 10);
        charges(x, 0, 2, 2);
        Check.due("13 the second too", x.pass(3), 6);
        charges(x, 0, 1, 3);
        Check.due("13 still frost", x.pass(4), 6);
        charges(x, 0, 0, 4);
        Check.due("13 the third alone", x.pass(5), 3);
        charges(x, 0, 0, 3);
        Check.due("13 zero degrees", x.pass(0), 0);
        charges(x, 0, 1, 4);
    }

    private static void charges(SapNetwork x, int first, int second, int third) {
        Check.due("15 charge", x.charge(1), first);
        Check.due("15 charge", x.charge(2), second);
        Check.due("15 charge", x.charge(3), third);
    }

    private static void leaksTakeSap() {
        SapNetwork x = new SapNetwork();
        x.setPump(80);
        x.addTap(0, 10, 20, 1, 0);
        Check.due("13 no leak", x.pass(1), 14);
        x.addLeak(1, 20);
        // The vacuum is 80 - 20 - 10 - 20 = 30.
        Check.due("13 leak", x.pass(1), 6);
        x.pass(-1);
        Check.due("13 leak, charged", x.pass(1), 50);
    }

    private static void yields() {
        SapNetwork x = new SapNetwork();
        Check.thrown("18 no taps", NoSuchElementException.class, () -> x.tapByYield(0));
        x.setPump(50);
        x.addTap(0, 0, 4, 1, 0);
        x.addJunction(0, 0);
        x.addTap(2, 0, 10, 1, 0);
        x.addTap(2, 0, 4, 1, 0);
        x.addTap(2, 0, 1, 1, 0);
        ranks(x, 1, 3, 4, 5);
        x.pass(1);
        ranks(x, 3, 1, 4, 5);
        x.addLeak(1, 5);
        x.pass(1);
        // The vacuum is 45, and 40 for the node 1: 4 + 2, 2 + 1, 2 + 1 and 0.
        ranks(x, 3, 1, 4, 5);
        x.addLeak(1, 20);
        x.pass(10);
        // The vacuum is 30, and 10 for the node 1.
        ranks(x, 3, 4, 1, 5);
        Check.thrown("18 rank", NoSuchElementException.class, () -> x.tapByYield(4));
        Check.thrown("18 rank", NoSuchElementException.class, () -> x.tapByYield(-1));
        Check.thrown("18 rank", NoSuchElementException.class,
                () -> x.tapByYield(Integer.MAX_VALUE));
    }

    private static void ranks(SapNetwork x, int... due) {
        for (int rank = 0; rank < due.length; rank++) {
            Check.due("18 rank " + rank, x.tapByYield(rank), due[rank]);
        }
    }
}
