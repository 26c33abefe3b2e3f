import java.util.function.Supplier;

/** The sentences on hours and taps: their terms, and promises 13 to 18. */
final class HoursEdges extends Edges {
    static void run() {
        termsOfHours();
        termsOfCharge();
        termsOfVolumes();
        termsOfSap();
        pass();
        hours();
        charge();
        sapOf();
        totalOf();
        tapByYield();
        severalExceptions();
        calls();
    }

    /** A network with one tap below the pump. */
    private static SapNetwork tap(int setting, int rate, int sweetness, int shade) {
        SapNetwork x = new SapNetwork();
        x.setPump(setting);
        x.addTap(0, 0, rate, sweetness, shade);
        return x;
    }

    private static SapNetwork passed(SapNetwork x, int... temperatures) {
        for (int temperature : temperatures) {
            x.pass(temperature);
        }
        return x;
    }

    private static void termsOfHours() {
        holds(TERMS, "At most 200 hours pass, numbered from 0; each one has a temperature.", () -> {
            SapNetwork x = tap(50, 20, 1, 0);
            for (int hour = 0; hour < 200; hour++) {
                due("hours()", x.hours(), hour);
                due("the hour " + hour, x.pass(hour % 2 == 0 ? -1 : 1), hour % 2 == 0 ? 0 : 70);
            }
            due("hours()", x.hours(), 200);
            due("the hour 0", x.sapOf(1, 0), 0);
            due("the hour 1", x.sapOf(1, 1), 70);
            due("the hour 199", x.sapOf(1, 199), 70);
            refusePass(STATE, States::fullOfHours, 1);
        });
        holds(TERMS, "In an hour, first each tap does the following.", () -> {
            SapNetwork x = new SapNetwork();
            for (int node = 1; node < 20; node++) {
                x.addTap(0, 0, node, 1, 0);
            }
            x.pass(-1);
            due("the sum of all rates", x.pass(1), 190);
            for (int node = 1; node < 20; node++) {
                due("sapOf(" + node + ", 1)", x.sapOf(node, 1), node);
                due("charge(" + node + ")", x.charge(node), 0);
            }
        });
        holds(TERMS, "Its own temperature is that of the hour minus its shade.", () -> {
            for (int shade = 0; shade <= 5; shade++) {
                due("just cold", passed(tap(0, 1, 1, shade), shade - 1).charge(1), 1);
                due("not cold", passed(tap(0, 1, 1, shade), shade).charge(1), 0);
                due("coldest", passed(tap(0, 1, 1, shade), -30).charge(1), 1);
                due("warmest", passed(tap(0, 1, 1, shade), 30).charge(1), 0);
            }
        });
    }

    private static void termsOfCharge() {
        holds(TERMS, "If that is less than 0, its charge increases by 1, unless it is 9, and it"
                + " gives no sap.", () -> {
            SapNetwork x = tap(99, 20, 1, 0);
            for (int hour = 1; hour <= 9; hour++) {
                due("frost", x.pass(-1), 0);
                due("charge", x.charge(1), hour);
            }
            due("the tenth frost", x.pass(-1), 0);
            due("the charge", x.charge(1), 9);
            due("the eleventh frost", x.pass(-30), 0);
            due("the charge", x.charge(1), 9);
            due("totalOf(1)", x.totalOf(1), 0);
            for (int hour = 1; hour <= 9; hour++) {
                due("warmth", x.pass(0), 119);
            }
            due("without a charge", x.pass(0), 19);
        });
        holds(TERMS, "If that is less than 0, its charge increases by 1, unless it is 9, and it"
                + " gives no sap.", () -> {
            SapNetwork x = passed(tap(99, 20, 1, 0), -1, -1, -1, -1, -1, -1, -1, -1);
            due("the charge after 8", x.charge(1), 8);
            x.pass(0);
            due("the charge after warmth", x.charge(1), 7);
            passed(x, -1, -1, -1);
            due("the charge again", x.charge(1), 9);
        });
    }

    /** What a tap gives with a charge of 1, and what it gives without a charge an hour later. */
    private static void gives(int setting, int rate, int charged, int uncharged) {
        SapNetwork x = passed(tap(setting, rate, 1, 0), -1);
        String tap = "rate " + rate + ", vacuum " + setting;
        due(tap + ", charged", x.pass(0), charged);
        due(tap + ", charge after it", x.charge(1), 0);
        due(tap + ", without a charge", x.pass(0), uncharged);
        due(tap + ", charge after it", x.charge(1), 0);
        due(tap + ", the charged hour", x.sapOf(1, 1), charged);
        due(tap + ", the other hour", x.sapOf(1, 2), uncharged);
    }

    private static void termsOfVolumes() {
        holds(TERMS, "Otherwise, if its charge is above 0, it gives a volume of its rate times the"
                + " sum of 20 and its vacuum, divided by 20, rounded down, and its charge decreases"
                + " by 1; if its charge is 0, it gives a volume of its rate times its vacuum,"
                + " divided by 100, rounded down.", () -> {
            // The vacuum is 0.
            gives(0, 1, 1, 0);
            gives(0, 20, 20, 0);
            // 39 / 20, 40 / 20 and 41 / 20
            gives(19, 1, 1, 0);
            gives(20, 1, 2, 0);
            gives(21, 1, 2, 0);
            // 80 / 100, 100 / 100 and 120 / 100
            gives(4, 20, 24, 0);
            gives(5, 20, 25, 1);
            gives(6, 20, 26, 1);
            // 98 / 100 and 100 / 100
            gives(49, 2, 6, 0);
            gives(50, 2, 7, 1);
            // The vacuum is 99: 119 / 20, 99 / 100, 20 * 119 / 20 and 1980 / 100
            gives(99, 1, 5, 0);
            gives(99, 20, 119, 19);
            // 7 * 36 / 20 = 12.6 and 7 * 16 / 100 = 1.12
            gives(16, 7, 12, 1);
        });
    }

    private static void termsOfSap() {
        holds(TERMS, "The sugar of the sap that a tap gives is its volume times the sweetness of"
                + " the tap.", () -> {
            for (int sweetness = 1; sweetness <= 6; sweetness++) {
                SapNetwork x = passed(tap(0, 7, sweetness, 0), -1, 1);
                due("the sugar of 7", x.lostSugar(), 7L * sweetness);
                x.pass(1);
                due("no more sugar with no volume", x.lostSugar(), 7L * sweetness);
            }
        });
        holds(TERMS, "Then, the sap of all taps together is poured into the tanks; and then the"
                + " pan boils.", () -> {
            // 10 with the sugar 10 and 5 with the sugar 30: one by one, the tank would get 10 of 10.
            SapNetwork x = States.thawed(States.sweet(10));
            due("tankVolume(0)", x.tankVolume(0), 10);
            due("tankSugar(0)", x.tankSugar(0), 26);
        });
        holds(TERMS, "Then, the sap of all taps together is poured into the tanks; and then the"
                + " pan boils.", () -> {
            SapNetwork x = States.pan(100, 0);
            x.setFire(1);
            x.pass(-30);
            due("the pan after an hour of frost", x.panVolume(), 95);
            x.pass(30);
            due("the pan after an hour of sap", x.panVolume(), 90);
            due("all sap of that hour", x.totalSap(), 714L + 714);
        });
    }

    private static void pass() {
        holds(13, "`temperature`: the temperature, -30 to 30", () -> {
            SapNetwork x = tap(0, 3, 1, 0);
            due("pass(-30)", x.pass(-30), 0);
            due("the charge", x.charge(1), 1);
            due("pass(30)", x.pass(30), 3);
            due("hours()", x.hours(), 2);
        });
        holds(13, "Returns the volume of sap that all taps gave in it.", () -> {
            due("without a tap", new SapNetwork().pass(1), 0);
            due("in a frost", States.working().pass(-1), 0);
            // 10 * 65 / 20 = 32, while the tap 3 with the shade 4 freezes
            due("one of two taps", States.working().pass(3), 32);
            // 7 * 49 / 20 = 17 more
            due("both taps", States.working().pass(4), 49);
        });
        holds(13, "Throws `IllegalArgumentException` if the temperature is out of range", () -> {
            for (int temperature : outside(-30, 30)) {
                refusePass(ARGUMENT, States::working, temperature);
            }
        });
        holds(13, "Throws `IllegalStateException` if 200 hours have passed", () -> {
            refusePass(STATE, States::fullOfHours, -30);
            refusePass(STATE, States::fullOfHours, 0);
            refusePass(STATE, States::fullOfHours, 30);
            SapNetwork x = new SapNetwork();
            for (int hour = 0; hour < 199; hour++) {
                x.pass(0);
            }
            due("the last hour", x.pass(0), 0);
            due("hours()", x.hours(), 200);
        });
    }

    private static void hours() {
        holds(14, "Returns the number of hours that have passed.", () -> {
            SapNetwork x = new SapNetwork();
            due("at first", x.hours(), 0);
            x.pass(-30);
            due("after one", x.hours(), 1);
            due("at last", States.fullOfHours().hours(), 200);
        });
    }

    private static void charge() {
        holds(15, NO_NODE, () -> {
            for (int node : outside(0, 4)) {
                refused("charge(" + node + ")", INDEX, States::working, x -> x.charge(node));
            }
            refused("charge(1)", INDEX, States::fresh, x -> x.charge(1));
            refused("charge(20)", INDEX, States::deepest, x -> x.charge(20));
            due("the last node", passed(States.deepest(), -1).charge(19), 1);
        });
        holds(15, NO_TAP, () -> {
            for (int node : new int[] {0, 1, 4}) {
                refused("charge(" + node + ")", UNSUPPORTED, States::working,
                        x -> x.charge(node));
            }
            due("the first tap", States.working().charge(2), 2);
            due("the last tap", States.working().charge(3), 2);
        });
    }

    private static void sapOf() {
        holds(16, "Returns the volume, 0 if the tap was added later.", () -> {
            SapNetwork x = passed(tap(50, 2, 1, 0), 1, 1);
            x.addTap(0, 0, 20, 1, 0);
            due("before it was added", x.sapOf(2, 0), 0);
            due("just before it was added", x.sapOf(2, 1), 0);
            x.pass(1);
            due("just after it was added", x.sapOf(2, 2), 10);
            due("before it was added, later", x.sapOf(2, 1), 0);
            due("the first tap", x.sapOf(1, 1), 1);
        });
        holds(16, "Returns the volume, 0 if the tap was added later.", () -> {
            SapNetwork x = States.fullOfHours();
            x.addTap(0, 0, 20, 1, 0);
            due("the first hour", x.sapOf(2, 0), 0);
            due("the last hour", x.sapOf(2, 199), 0);
        });
        holds(16, NO_NODE, () -> {
            for (int node : outside(0, 4)) {
                refuseSapOf(INDEX, States::working, node, 0);
            }
            refuseSapOf(INDEX, States::fullOfNodes, 20, 0);
            due("the last node", passed(States.deepest(), 1).sapOf(19, 0), 16);
        });
        holds(16, NO_TAP, () -> {
            refuseSapOf(UNSUPPORTED, States::working, 0, 0);
            refuseSapOf(UNSUPPORTED, States::working, 1, 3);
            refuseSapOf(UNSUPPORTED, States::working, 4, 0);
        });
        holds(16, "Throws `NoSuchElementException` if this hour has not passed", () -> {
            for (int hour : outside(0, 3)) {
                refuseSapOf(ELEMENT, States::working, 2, hour);
            }
            for (int hour : outside(0, 199)) {
                refuseSapOf(ELEMENT, States::fullOfHours, 1, hour);
            }
            refuseSapOf(ELEMENT, () -> tap(0, 1, 1, 0), 1, 0);
            due("the first hour", States.working().sapOf(2, 0), 0);
            due("the second hour", States.working().sapOf(2, 1), 32);
            due("the last hour", States.working().sapOf(2, 3), 0);
            due("the last hour of all", States.fullOfHours().sapOf(1, 199), 70);
        });
    }

    private static void totalOf() {
        holds(17, "Returns the volume that a tap gave so far, as it is kept.", () -> {
            SapNetwork x = tap(50, 2, 1, 0);
            due("no hour", x.totalOf(1), 0);
            x.pass(-1);
            due("a frost", x.totalOf(1), 0);
            x.pass(1);
            due("with a charge", x.totalOf(1), 7);
            x.pass(1);
            due("without a charge", x.totalOf(1), 8);
            due("all hours", States.fullOfHours().totalOf(1), 7000);
        });
        holds(17, NO_NODE, () -> {
            for (int node : outside(0, 4)) {
                refused("totalOf(" + node + ")", INDEX, States::working, x -> x.totalOf(node));
            }
            refused("totalOf(20)", INDEX, States::fullOfNodes, x -> x.totalOf(20));
            due("the last node", passed(States.deepest(), 1).totalOf(19), 16);
        });
        holds(17, NO_TAP, () -> {
            for (int node : new int[] {0, 1, 4}) {
                refused("totalOf(" + node + ")", UNSUPPORTED, States::working,
                        x -> x.totalOf(node));
            }
        });
    }

    /** Taps with these rates below the pump, that gave as much as their rates are. */
    private static SapNetwork yielding(int... rates) {
        SapNetwork x = new SapNetwork();
        for (int rate : rates) {
            x.addTap(0, 0, rate, 1, 0);
        }
        return States.thawed(x);
    }

    private static void ranks(SapNetwork x, int... due) {
        for (int rank = 0; rank < due.length; rank++) {
            due("tapByYield(" + rank + ")", x.tapByYield(rank), due[rank]);
        }
        Check.thrown("tapByYield(" + due.length + ")", ELEMENT, () -> x.tapByYield(due.length));
    }

    private static void tapByYield() {
        String order = "Returns the tap at a rank, in descending order of the volumes that the taps"
                + " gave so far; for equal ones, the tap with the lower number comes first.";
        holds(18, order, () -> {
            ranks(yielding(2, 3, 1, 3), 2, 4, 1, 3);
            ranks(yielding(3, 2, 1), 1, 2, 3);
            ranks(yielding(1, 2, 3), 3, 2, 1);
            ranks(yielding(5, 5, 5), 1, 2, 3);
            SapNetwork later = yielding(1, 2);
            later.addJunction(0, 0);
            later.addTap(3, 0, 20, 1, 0);
            later.addTap(3, 0, 20, 1, 0);
            // Those that gave nothing come last, and a junction never.
            ranks(later, 2, 1, 4, 5);
        });
        holds(18, order, () -> {
            int[] rates = new int[19];
            int[] due = new int[19];
            for (int i = 0; i < 19; i++) {
                rates[i] = i + 1;
                due[i] = 19 - i;
            }
            ranks(yielding(rates), due);
        });
        holds(18, RANK, () -> {
            due("the only tap, without a volume", tap(0, 1, 1, 0).tapByYield(0), 1);
            due("the first rank", yielding(1, 2, 3).tapByYield(0), 3);
            due("the last rank", yielding(1, 2, 3).tapByYield(2), 1);
        });
        holds(18, NO_RANK, () -> {
            for (int rank : outside(0, 2)) {
                refused("tapByYield(" + rank + ")", ELEMENT, () -> yielding(1, 2, 3),
                        x -> x.tapByYield(rank));
            }
            refused("tapByYield(0)", ELEMENT, States::fresh, x -> x.tapByYield(0));
            refused("tapByYield(1)", ELEMENT, States::fullOfNodes, x -> x.tapByYield(1));
        });
    }

    private static void severalExceptions() {
        holds(TERMS, FIRST_DOCUMENTED, () -> {
            refusePass(ARGUMENT, States::fullOfHours, -31);
            refusePass(ARGUMENT, States::fullOfHours, 31);
        });
        holds(TERMS, FIRST_DOCUMENTED, () -> {
            refuseSapOf(INDEX, States::working, 5, 4);
            refuseSapOf(INDEX, States::working, -1, -1);
            refuseSapOf(UNSUPPORTED, States::working, 0, 4);
            refuseSapOf(UNSUPPORTED, States::working, 1, -1);
            refuseSapOf(UNSUPPORTED, States::fresh, 0, 0);
        });
    }

    /** After 511 calls, the last 199 of them hours. */
    private static SapNetwork almostUsedUp() {
        SapNetwork x = new SapNetwork();
        x.setPump(50);
        x.addTap(0, 0, 20, 1, 0);
        for (int call = 2; call < 312; call++) {
            x.setFire(call % 10);
        }
        for (int hour = 0; hour < 199; hour++) {
            x.pass(hour % 2 == 0 ? 1 : -1);
        }
        return x;
    }

    private static void calls() {
        holds(TERMS, "An object is used for at most 512 calls after it has been made; what later"
                + " calls answer is free.", () -> {
            // Of 199 hours 100 were warm: the first gave 10, and each other one 70.
            due("totalSap() as the 512th call", almostUsedUp().totalSap(), 6940L);
            due("pass(-1) as the 512th call", almostUsedUp().pass(-1), 0);
            due("addTank(5000) as the 512th call", almostUsedUp().addTank(5000), 0);
            due("addJunction(0, 20) as the 512th call", almostUsedUp().addJunction(0, 20), 2);
            due("setFire(9) as the 512th call", almostUsedUp().setFire(9), 1);
            Check.thrown("draw() as the 512th call", UNSUPPORTED, () -> almostUsedUp().draw());
        });
    }

    private static void refusePass(Class<? extends RuntimeException> due,
            Supplier<SapNetwork> state, int temperature) {
        refused("pass(" + temperature + ")", due, state, x -> x.pass(temperature));
    }

    private static void refuseSapOf(Class<? extends RuntimeException> due,
            Supplier<SapNetwork> state, int node, int hour) {
        refused("sapOf(" + node + ", " + hour + ")", due, state, x -> x.sapOf(node, hour));
    }
}
