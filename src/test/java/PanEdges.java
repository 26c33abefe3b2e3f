import java.util.function.Supplier;

/** The sentences on the pan and on syrup: their terms, and promises 23 to 34. */
final class PanEdges extends Edges {
    static void run() {
        termsOfPan();
        termsOfBoiling();
        termsOfReadiness();
        termsOfBatches();
        load();
        loadRefusals();
        setFire();
        isReady();
        hoursToReady();
        draw();
        dump();
        batches();
        severalExceptions();
    }

    private static void pan(SapNetwork x, int volume, int sugar) {
        due("panVolume()", x.panVolume(), volume);
        due("panSugar()", x.panSugar(), sugar);
    }

    /** The pan of States.pan() above a fire. */
    private static SapNetwork pan(int sweet, int plain, int fire) {
        SapNetwork x = States.pan(sweet, plain);
        x.setFire(fire);
        return x;
    }

    private static SapNetwork boiled(int sweet, int plain, int fire, int hours) {
        return States.boiled(pan(sweet, plain, fire), hours);
    }

    private static void termsOfPan() {
        holds(TERMS, "The pan contains a volume, at most 500, and sugar, initially none.", () -> {
            pan(new SapNetwork(), 0, 0);
            SapNetwork x = States.pan(499, 0);
            due("the last that there is room for", x.load(0, 1), 500);
            pan(x, 500, 3000);
            refuseLoad(STATE, () -> States.pan(500, 0), 0, 1);
            refuseLoad(STATE, () -> States.pan(500, 0), 1, 1);
        });
        holds(TERMS, "Its least volume is its sugar divided by 60, rounded up.", () -> {
            // Nothing more boils away than down to the least volume.
            pan(boiled(0, 1, 9, 12), 1, 1);
            pan(boiled(9, 5, 9, 12), 1, 59);
            pan(boiled(9, 6, 9, 12), 1, 60);
            pan(boiled(10, 1, 9, 12), 2, 61);
            pan(boiled(19, 5, 9, 12), 2, 119);
            pan(boiled(20, 0, 9, 12), 2, 120);
            pan(boiled(20, 1, 9, 12), 3, 121);
            pan(boiled(499, 0, 9, 12), 50, 2994);
            pan(boiled(500, 0, 9, 12), 50, 3000);
        });
        holds(TERMS, "The fire has a level from 0 to 9, initially 0.", () -> {
            SapNetwork x = States.boiled(States.pan(100, 0), 1);
            pan(x, 100, 600);
            due("the level at first", x.setFire(1), 0);
            pan(States.boiled(x, 1), 95, 600);
            due("the level before", x.setFire(9), 1);
            pan(States.boiled(x, 1), 50, 600);
            due("the level before", x.setFire(0), 9);
            pan(States.boiled(x, 1), 50, 600);
            refuseFire(-1);
            refuseFire(10);
        });
    }

    private static void termsOfBoiling() {
        String boiling = "When the pan boils, its volume decreases by 5 times the level of the"
                + " fire, but not below its least volume; if it is not greater than that already,"
                + " it does not change.";
        holds(TERMS, boiling, () -> {
            for (int fire = 0; fire <= 9; fire++) {
                pan(boiled(100, 0, fire, 1), 100 - 5 * fire, 600);
            }
            // The least volumes are 6, 5 and 5.
            pan(boiled(52, 0, 9, 1), 7, 312);
            pan(boiled(50, 0, 9, 1), 5, 300);
            pan(boiled(49, 0, 9, 1), 5, 294);
        });
        holds(TERMS, boiling, () -> {
            pan(boiled(49, 0, 9, 2), 5, 294);
            pan(boiled(50, 0, 9, 9), 5, 300);
            pan(boiled(0, 1, 9, 1), 1, 1);
            pan(boiled(0, 0, 9, 1), 0, 0);
            due("no steam of an empty pan", boiled(0, 0, 9, 2).steam(), 0L);
            due("no steam of a drop", boiled(0, 1, 9, 2).steam(), 0L);
            due("no steam without a fire", boiled(100, 0, 0, 2).steam(), 0L);
        });
        holds(TERMS, "What the volume decreases by is steam; the sugar stays.", () -> {
            SapNetwork x = pan(49, 0, 9);
            due("before", x.steam(), 0L);
            States.boiled(x, 1);
            due("down to the least volume", x.steam(), 44L);
            States.boiled(x, 1);
            due("no more", x.steam(), 44L);
            pan(x, 5, 294);
            due("loss()", x.loss(), 0L);
            due("lostSugar()", x.lostSugar(), 0L);
            due("isBalanced()", x.isBalanced(), true);
            due("the whole 45", boiled(50, 0, 9, 1).steam(), 45L);
            due("the least fire", boiled(50, 0, 1, 1).steam(), 5L);
        });
    }

    private static void termsOfReadiness() {
        String ready = "The pan is ready if its volume is above 0 and not greater than its least"
                + " volume.";
        holds(TERMS, ready, () -> {
            due("an empty pan", new SapNetwork().isReady(), false);
            due("1 with the least volume 1", States.pan(0, 1).isReady(), true);
            due("2 with the least volume 1", States.pan(0, 2).isReady(), false);
            due("7 with the least volume 6", boiled(52, 0, 9, 1).isReady(), false);
            due("6 with the least volume 6", boiled(52, 0, 9, 2).isReady(), true);
            due("5 with the least volume 5", boiled(50, 0, 9, 1).isReady(), true);
        });
        holds(TERMS, "Its boiled hours are the hours in which its volume decreased since it was"
                + " empty.", PanEdges::boiledHours);
    }

    private static char gradeOf(SapNetwork x) {
        return x.gradeOf(x.draw());
    }

    private static void boiledHours() {
        // 17 with the least volume 2 take 3 hours of a fire of the level 1, and 18 take 4.
        due("3 hours", gradeOf(boiled(17, 0, 1, 3)), 'g');
        due("the fourth with 1 of steam", gradeOf(boiled(18, 0, 1, 4)), 'a');
        due("hours of a ready pan", gradeOf(boiled(17, 0, 1, 9)), 'g');
        SapNetwork cold = boiled(17, 0, 0, 9);
        cold.setFire(1);
        due("hours without a fire", gradeOf(States.boiled(cold, 3)), 'g');
        SapNetwork empty = boiled(0, 0, 1, 9);
        empty.load(0, 17);
        due("hours of an empty pan", gradeOf(States.boiled(empty, 3)), 'g');
        due("hours before a draw", gradeOf(afterDraw(17, 3)), 'g');
        due("all hours after a draw", gradeOf(afterDraw(18, 4)), 'a');
        due("hours before a dump", gradeOf(afterDump(17, 3)), 'g');
        due("all hours after a dump", gradeOf(afterDump(18, 4)), 'a');
        SapNetwork again = boiled(17, 0, 1, 3);
        // 10 more make 12, with the sugar 162 and the least volume 3: 2 hours more.
        again.load(0, 10);
        due("hours before another load", gradeOf(States.boiled(again, 2)), 'a');
    }

    private static SapNetwork afterDraw(int volume, int hours) {
        SapNetwork x = drawn(boiled(17, 0, 1, 3));
        x.load(0, volume);
        return States.boiled(x, hours);
    }

    private static SapNetwork afterDump(int volume, int hours) {
        SapNetwork x = boiled(18, 0, 1, 3);
        x.dump();
        x.load(0, volume);
        return States.boiled(x, hours);
    }

    private static void termsOfBatches() {
        holds(TERMS, "At most 30 batches of syrup are drawn, numbered from 0.", () -> {
            SapNetwork x = States.pantry();
            for (int batch = 0; batch < 30; batch++) {
                x.load(1, 1);
                due("the number of the batch", x.draw(), batch);
            }
            due("batches()", x.batches(), 30);
            refused("draw()", STATE, () -> loaded(States.fullOfBatches(), 1), SapNetwork::draw);
        });
        holds(TERMS, "When a batch is drawn, the whole volume and sugar of the pan becomes syrup,"
                + " and the pan is empty.", () -> {
            SapNetwork x = boiled(500, 0, 9, 10);
            due("draw()", x.draw(), 0);
            due("the whole volume", x.batchVolume(0), 50);
            pan(x, 0, 0);
            due("loss()", x.loss(), 0L);
            due("lossByBalance()", x.lossByBalance(), 0L);
            due("lostSugar()", x.lostSugar(), 0L);
            due("isBalanced()", x.isBalanced(), true);
            due("another load", x.load(1, 1), 1);
            pan(x, 1, 1);
            x.draw();
            due("the first batch", x.batchVolume(0), 50);
            due("the second batch", x.batchVolume(1), 1);
        });
        holds(TERMS, "The grade of a batch is 'g' if the pan had at most 3 boiled hours, 'a' if it"
                + " had 4 to 8, and 'd' if it had more.", () -> {
            due("0 hours", gradeOf(States.pan(0, 1)), 'g');
            // The steam to come is 1, 15, 16, 40, 41 and 450.
            due("1 hour", gradeOf(boiled(2, 0, 1, 1)), 'g');
            due("3 hours", gradeOf(boiled(17, 0, 1, 3)), 'g');
            due("4 hours", gradeOf(boiled(18, 0, 1, 4)), 'a');
            due("8 hours", gradeOf(boiled(45, 0, 1, 8)), 'a');
            due("9 hours", gradeOf(boiled(46, 0, 1, 9)), 'd');
            due("90 hours", gradeOf(boiled(500, 0, 1, 90)), 'd');
        });
    }

    private static SapNetwork loaded(SapNetwork x, int volume) {
        x.load(1, volume);
        return x;
    }

    private static void load() {
        holds(23, "Moves sap from a tank into the pan, with the sugar of the tank times this"
                + " volume, divided by the volume in the tank, rounded down.", () -> {
            // 12 with the sugar 28: 28 / 12 = 2.3, 28 * 6 / 12 = 14 and 28 * 11 / 12 = 25.7
            loadOfWorking(1, 2);
            loadOfWorking(6, 14);
            loadOfWorking(11, 25);
            loadOfWorking(12, 28);
        });
        holds(23, "`volume`: the volume, 1 to 500", () -> {
            SapNetwork x = States.pantry();
            due("load(0, 1)", x.load(0, 1), 1);
            pan(x, 1, 6);
            x.dump();
            due("load(0, 500)", x.load(0, 500), 500);
            pan(x, 500, 3000);
            due("tankVolume(0)", x.tankVolume(0), 94);
            due("tankSugar(0)", x.tankSugar(0), 94 * 6);
        });
        holds(23, "Returns the volume in the pan after the call.", () -> {
            SapNetwork x = States.pantry();
            due("the first", x.load(1, 119), 119);
            due("the second", x.load(0, 380), 499);
            due("the third", x.load(0, 1), 500);
            States.boiled(x, 1);
            x.setFire(9);
            States.boiled(x, 1);
            due("after the boiling", x.load(0, 45), 500);
        });
    }

    private static void loadOfWorking(int volume, int sugar) {
        SapNetwork x = States.working();
        due("load(0, " + volume + ")", x.load(0, volume), 3 + volume);
        pan(x, 3 + volume, 18 + sugar);
        due("tankVolume(0)", x.tankVolume(0), 12 - volume);
        due("tankSugar(0)", x.tankSugar(0), 28 - sugar);
        due("loss()", x.loss(), 20L);
        due("isBalanced()", x.isBalanced(), true);
    }

    private static void loadRefusals() {
        holds(23, NO_TANK, () -> {
            for (int tank : outside(0, 1)) {
                refuseLoad(INDEX, States::working, tank, 1);
            }
            refuseLoad(INDEX, States::fresh, 0, 1);
            refuseLoad(INDEX, States::fullOfTanks, 4, 1);
            due("the last tank", States.working().load(1, 4), 7);
        });
        holds(23, "Throws `IllegalArgumentException` if the volume is out of range", () -> {
            for (int volume : outside(1, 500)) {
                refuseLoad(ARGUMENT, States::pantry, 0, volume);
            }
        });
        holds(23, "Throws `UnsupportedOperationException` if it is greater than the volume in the"
                + " tank", () -> {
            refuseLoad(UNSUPPORTED, States::working, 0, 13);
            refuseLoad(UNSUPPORTED, States::working, 1, 5);
            refuseLoad(UNSUPPORTED, States::fullOfTanks, 2, 1);
            refuseLoad(UNSUPPORTED, States::pantry, 1, 120);
            due("all of it", States.working().load(0, 12), 15);
            due("all of it", States.pantry().load(1, 119), 119);
        });
        holds(23, "Throws `IllegalStateException` if the pan would contain more than 500", () -> {
            refuseLoad(STATE, () -> States.pan(500, 0), 0, 1);
            refuseLoad(STATE, () -> States.pan(499, 0), 0, 2);
            refuseLoad(STATE, () -> States.pan(400, 0), 1, 101);
            refuseLoad(STATE, () -> States.pan(1, 0), 0, 500);
            due("500 in the end", States.pan(400, 0).load(1, 100), 500);
            due("500 in the end", States.pan(1, 0).load(0, 499), 500);
        });
    }

    private static void setFire() {
        holds(24, "`level`: the level, 0 to 9", () -> {
            pan(boiled(500, 0, 0, 1), 500, 3000);
            pan(boiled(500, 0, 9, 1), 455, 3000);
        });
        holds(24, "Returns the level before.", () -> {
            SapNetwork x = new SapNetwork();
            due("at first", x.setFire(9), 0);
            due("the highest", x.setFire(9), 9);
            due("the same", x.setFire(0), 9);
            due("the lowest", x.setFire(1), 0);
        });
        holds(24, "Throws `IllegalArgumentException` if the level is out of range", () -> {
            for (int level : outside(0, 9)) {
                refuseFire(level);
            }
        });
    }

    private static void isReady() {
        holds(27, "Returns whether the pan is ready.", () -> {
            SapNetwork x = boiled(50, 0, 9, 1);
            due("ready", x.isReady(), true);
            x.load(1, 1);
            // 6 with the sugar 301 have the least volume 6.
            due("still ready", x.isReady(), true);
            x.load(1, 1);
            due("raw again", x.isReady(), false);
            x.dump();
            due("empty", x.isReady(), false);
        });
    }

    private static void toReady(SapNetwork x, int due) {
        due("hoursToReady()", x.hoursToReady(), due);
        due("hoursByBoiling()", x.hoursByBoiling(), due);
    }

    private static void hoursToReady() {
        holds(28, "Returns the number of hours, 0 if it is ready.", PanEdges::numbersOfHours);
        holds(29, "Returns the same number, found by boiling a copy of the pan hour by hour.",
                PanEdges::numbersOfHours);
        holds(29, "Returns the same number, found by boiling a copy of the pan hour by hour.",
                () -> {
            SapNetwork x = pan(500, 0, 1);
            SapNetwork twin = pan(500, 0, 1);
            due("hoursByBoiling()", x.hoursByBoiling(), 90);
            alike("hoursByBoiling()", x, twin);
        });
        String none = "Throws `NoSuchElementException` if the pan is empty, or it is not ready and"
                + " the level of the fire is 0";
        holds(28, none, () -> {
            for (int fire = 0; fire <= 9; fire++) {
                int level = fire;
                refused("hoursToReady() of an empty pan", ELEMENT, () -> pan(0, 0, level),
                        SapNetwork::hoursToReady);
            }
            refused("hoursToReady() without a fire", ELEMENT, () -> pan(0, 2, 0),
                    SapNetwork::hoursToReady);
            refused("hoursToReady() after a draw", ELEMENT, () -> drawn(boiled(50, 0, 9, 1)),
                    SapNetwork::hoursToReady);
            due("with the least fire", pan(0, 2, 1).hoursToReady(), 1);
            due("ready without a fire", pan(0, 1, 0).hoursToReady(), 0);
        });
        holds(29, none, () -> {
            for (int fire = 0; fire <= 9; fire++) {
                int level = fire;
                refused("hoursByBoiling() of an empty pan", ELEMENT, () -> pan(0, 0, level),
                        SapNetwork::hoursByBoiling);
            }
            refused("hoursByBoiling() without a fire", ELEMENT, () -> pan(0, 2, 0),
                    SapNetwork::hoursByBoiling);
            refused("hoursByBoiling() after a draw", ELEMENT, () -> drawn(boiled(50, 0, 9, 1)),
                    SapNetwork::hoursByBoiling);
            due("with the least fire", pan(0, 2, 1).hoursByBoiling(), 1);
            due("ready without a fire", pan(0, 1, 0).hoursByBoiling(), 0);
        });
    }

    private static void numbersOfHours() {
        // With the fire 9 an hour makes 45 of steam; 44, 45 and 46 are to come.
        toReady(pan(49, 0, 9), 1);
        toReady(pan(50, 0, 9), 1);
        toReady(pan(52, 0, 9), 2);
        // With the fire 1 it makes 5; 1, 15 and 16 are to come.
        toReady(pan(2, 0, 1), 1);
        toReady(pan(17, 0, 1), 3);
        toReady(pan(18, 0, 1), 4);
        // 450 are to come.
        toReady(pan(500, 0, 9), 10);
        toReady(pan(500, 0, 1), 90);
        toReady(boiled(500, 0, 1, 89), 1);
        toReady(boiled(500, 0, 1, 90), 0);
        toReady(pan(0, 1, 0), 0);
        toReady(pan(0, 1, 9), 0);
    }

    private static SapNetwork drawn(SapNetwork x) {
        x.draw();
        return x;
    }

    private static void draw() {
        holds(30, "Returns the number of the batch.", () -> {
            SapNetwork x = States.working();
            due("the pan of another load", x.dump(), 3);
            x.load(1, 1);
            due("the second batch", x.draw(), 1);
        });
        holds(30, "Throws `UnsupportedOperationException` if the pan is not ready", () -> {
            refused("draw() of an empty pan", UNSUPPORTED, States::fresh, SapNetwork::draw);
            refused("draw() of a raw pan", UNSUPPORTED, States::working, SapNetwork::draw);
            refused("draw() of 2 of 1", UNSUPPORTED, () -> pan(0, 2, 9), SapNetwork::draw);
            refused("draw() of 7 of 6", UNSUPPORTED, () -> boiled(52, 0, 9, 1), SapNetwork::draw);
            refused("draw() again", UNSUPPORTED, () -> drawn(boiled(50, 0, 9, 1)),
                    SapNetwork::draw);
            due("draw() of 6 of 6", boiled(52, 0, 9, 2).draw(), 0);
            due("draw() of 1 of 1", pan(0, 1, 0).draw(), 0);
        });
        holds(30, "Throws `IllegalStateException` if there are 30 batches", () -> {
            refused("draw()", STATE, () -> loaded(States.fullOfBatches(), 1), SapNetwork::draw);
            SapNetwork x = States.pantry();
            for (int batch = 0; batch < 29; batch++) {
                x.load(1, 1);
                x.draw();
            }
            x.load(1, 1);
            due("the last batch", x.draw(), 29);
        });
    }

    private static void dump() {
        holds(31, "Empties the pan: all that it contains is loss.", () -> {
            SapNetwork x = States.working();
            due("dump()", x.dump(), 3);
            pan(x, 0, 0);
            due("loss()", x.loss(), 23L);
            due("lossByBalance()", x.lossByBalance(), 23L);
            due("lostSugar()", x.lostSugar(), 66L);
            due("isBalanced()", x.isBalanced(), true);
            due("batches()", x.batches(), 1);
            due("dump() of the empty pan", x.dump(), 0);
            due("loss()", x.loss(), 23L);
            due("lostSugar()", x.lostSugar(), 66L);
        });
        holds(31, "Returns the volume that it contained.", () -> {
            due("an empty pan", new SapNetwork().dump(), 0);
            due("the least volume", States.pan(0, 1).dump(), 1);
            SapNetwork x = States.pan(500, 0);
            due("a full pan", x.dump(), 500);
            due("loss()", x.loss(), 500L);
            due("lostSugar()", x.lostSugar(), 3000L);
        });
    }

    private static void batches() {
        holds(32, "Returns the number of batches.", () -> {
            due("none", new SapNetwork().batches(), 0);
            due("one", States.working().batches(), 1);
            due("all", States.fullOfBatches().batches(), 30);
        });
        holds(33, NO_BATCH, () -> {
            for (int batch : outside(0, 0)) {
                refused("batchVolume(" + batch + ")", INDEX, States::working,
                        x -> x.batchVolume(batch));
            }
            refused("batchVolume(0)", INDEX, States::fresh, x -> x.batchVolume(0));
            refused("batchVolume(30)", INDEX, States::fullOfBatches, x -> x.batchVolume(30));
            due("the first batch", States.fullOfBatches().batchVolume(0), 1);
            due("the last batch", States.fullOfBatches().batchVolume(29), 1);
        });
        holds(34, NO_BATCH, () -> {
            for (int batch : outside(0, 0)) {
                refused("gradeOf(" + batch + ")", INDEX, States::working, x -> x.gradeOf(batch));
            }
            refused("gradeOf(0)", INDEX, States::fresh, x -> x.gradeOf(0));
            refused("gradeOf(30)", INDEX, States::fullOfBatches, x -> x.gradeOf(30));
            due("the first batch", States.fullOfBatches().gradeOf(0), 'g');
            due("the last batch", States.fullOfBatches().gradeOf(29), 'g');
        });
    }

    private static void severalExceptions() {
        holds(TERMS, FIRST_DOCUMENTED, () -> {
            refuseLoad(INDEX, States::working, 2, 0);
            refuseLoad(INDEX, States::working, -1, 501);
            refuseLoad(INDEX, () -> States.pan(500, 0), 2, 1);
            refuseLoad(ARGUMENT, States::working, 0, 501);
            refuseLoad(ARGUMENT, States::pantry, 0, 501);
            refuseLoad(ARGUMENT, () -> States.pan(500, 0), 0, 501);
            refuseLoad(UNSUPPORTED, () -> States.pan(450, 0), 0, 146);
            refuseLoad(STATE, () -> States.pan(450, 0), 0, 145);
        });
        holds(TERMS, FIRST_DOCUMENTED, () -> {
            refused("draw() of an empty pan", UNSUPPORTED, States::fullOfBatches,
                    SapNetwork::draw);
            refused("draw() of a raw pan", UNSUPPORTED, () -> loaded(States.fullOfBatches(), 2),
                    SapNetwork::draw);
        });
    }

    private static void refuseLoad(Class<? extends RuntimeException> due,
            Supplier<SapNetwork> state, int tank, int volume) {
        refused("load(" + tank + ", " + volume + ")", due, state, x -> x.load(tank, volume));
    }

    private static void refuseFire(int level) {
        refused("setFire(" + level + ")", ARGUMENT, States::working, x -> x.setFire(level));
    }
}
