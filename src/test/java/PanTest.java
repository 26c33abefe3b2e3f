import java.util.NoSuchElementException;

/** Promises 23 to 34 in ordinary runs: pan and syrup. */
final class PanTest {
    public static void main(String[] args) {
        load();
        boil();
        boilWithoutSap();
        hours();
        readyWithoutBoiling();
        drawAndDump();
        grades();
        hoursCountSinceThePanWasEmpty();
        Check.end("PanTest");
    }

    /** A tank with the volume 700 and the sugar 700 * sweetness. */
    private static SapNetwork filled(int sweetness) {
        SapNetwork x = new SapNetwork();
        x.addTap(0, 0, 20, sweetness, 0);
        x.addTank(700);
        for (int i = 0; i < 9; i++) {
            x.pass(-1);
        }
        x.setPump(99);
        for (int i = 0; i < 6; i++) {
            x.pass(1);
        }
        Check.due("21 filled", x.tankVolume(0), 700);
        Check.due("22 filled", x.tankSugar(0), 700 * sweetness);
        return x;
    }

    private static void pan(SapNetwork x, int volume, int sugar) {
        Check.due("25 panVolume", x.panVolume(), volume);
        Check.due("26 panSugar", x.panSugar(), sugar);
    }

    private static void load() {
        SapNetwork x = new SapNetwork();
        x.addTap(0, 0, 10, 1, 0);
        x.addTap(0, 0, 5, 6, 0);
        x.addTank(100);
        x.pass(-1);
        x.pass(1);
        // 40 * 4 / 15 = 10.7 and 30 * 10 / 11 = 27.3
        Check.due("23 load", x.load(0, 4), 4);
        pan(x, 4, 10);
        Check.due("21 left", x.tankVolume(0), 11);
        Check.due("22 left", x.tankSugar(0), 30);
        Check.due("23 load", x.load(0, 10), 14);
        pan(x, 14, 37);
        Check.due("23 the last", x.load(0, 1), 15);
        pan(x, 15, 40);
        Check.due("21 empty", x.tankVolume(0), 0);
        Check.due("22 empty", x.tankSugar(0), 0);
        Check.due("38 no loss", x.lossByBalance(), 0L);
        Check.due("40 isBalanced", x.isBalanced(), true);
    }

    private static void boil() {
        SapNetwork x = filled(6);
        x.load(0, 101);
        pan(x, 101, 606);
        Check.due("27 raw", x.isReady(), false);
        x.pass(-1);
        Check.due("36 without fire", x.steam(), 0L);
        pan(x, 101, 606);
        x.setFire(9);
        x.pass(-1);
        pan(x, 56, 606);
        Check.due("36 steam", x.steam(), 45L);
        x.pass(-1);
        // 606 / 60 = 10.1, so the least volume is 11
        pan(x, 11, 606);
        Check.due("36 steam", x.steam(), 90L);
        Check.due("27 ready", x.isReady(), true);
        x.pass(-1);
        pan(x, 11, 606);
        Check.due("36 no more steam", x.steam(), 90L);
        x.load(0, 10);
        // 606 and 60 make 666, of which the least volume is 12
        pan(x, 21, 666);
        Check.due("27 loaded again", x.isReady(), false);
        x.setFire(2);
        x.pass(-1);
        pan(x, 12, 666);
        Check.due("36 steam", x.steam(), 99L);
        Check.due("27 ready again", x.isReady(), true);
        Check.due("40 isBalanced", x.isBalanced(), true);
    }

    private static void boilWithoutSap() {
        SapNetwork x = new SapNetwork();
        x.setFire(9);
        x.pass(0);
        pan(x, 0, 0);
        Check.due("36 empty pan", x.steam(), 0L);
        Check.due("27 empty pan", x.isReady(), false);
    }

    private static void hours() {
        SapNetwork x = filled(6);
        Class<NoSuchElementException> none = NoSuchElementException.class;
        refuseHours(x);
        x.setFire(3);
        refuseHours(x);
        x.load(0, 100);
        // The least volume is 10, so 90 of steam: 6 hours of 15, 4.5 of 20, 2 of 45, 18 of 5
        due(x, 6);
        x.setFire(4);
        due(x, 5);
        x.setFire(9);
        due(x, 2);
        x.setFire(1);
        due(x, 18);
        x.setFire(0);
        refuseHours(x);
        x.setFire(9);
        x.pass(-1);
        due(x, 1);
        x.pass(-1);
        due(x, 0);
        x.setFire(0);
        due(x, 0);
        x.draw();
        Check.thrown("28 drawn", none, x::hoursToReady);
        Check.thrown("29 drawn", none, x::hoursByBoiling);
        SapNetwork y = filled(1);
        y.load(0, 500);
        y.setFire(1);
        // The least volume is 9, so 491 of steam
        due(y, 99);
        pan(y, 500, 500);
        Check.due("36 only a copy boils", y.steam(), 0L);
    }

    private static void due(SapNetwork x, int hours) {
        Check.due("28 hoursToReady", x.hoursToReady(), hours);
        Check.due("29 hoursByBoiling", x.hoursByBoiling(), hours);
    }

    private static void refuseHours(SapNetwork x) {
        Check.thrown("28 hoursToReady", NoSuchElementException.class, x::hoursToReady);
        Check.thrown("29 hoursByBoiling", NoSuchElementException.class, x::hoursByBoiling);
    }

    private static void readyWithoutBoiling() {
        SapNetwork x = filled(3);
        x.load(0, 1);
        Check.due("27 a drop", x.isReady(), true);
        due(x, 0);
        x.load(0, 1);
        Check.due("27 two drops", x.isReady(), false);
        x.dump();
        x.load(0, 1);
        Check.due("30 draw", x.draw(), 0);
        Check.due("33 batchVolume", x.batchVolume(0), 1);
        Check.due("34 gradeOf", x.gradeOf(0), 'g');
    }

    private static void drawAndDump() {
        SapNetwork x = filled(2);
        Class<UnsupportedOperationException> raw = UnsupportedOperationException.class;
        Check.due("31 empty", x.dump(), 0);
        long lossBefore = x.loss();
        long sugarBefore = x.lostSugar();
        Check.thrown("30 empty", raw, x::draw);
        x.load(0, 30);
        Check.thrown("30 raw", raw, x::draw);
        x.setFire(9);
        x.pass(-1);
        Check.due("30 first", x.draw(), 0);
        pan(x, 0, 0);
        Check.due("32 batches", x.batches(), 1);
        Check.due("33 volume", x.batchVolume(0), 1);
        Check.due("37 no loss", x.loss(), lossBefore);
        x.load(0, 61);
        x.pass(-1);
        pan(x, 16, 122);
        Check.due("31 dump", x.dump(), 16);
        pan(x, 0, 0);
        Check.due("37 dumped", x.loss(), lossBefore + 16);
        Check.due("38 dumped", x.lossByBalance(), lossBefore + 16);
        Check.due("39 dumped", x.lostSugar(), sugarBefore + 122);
        Check.due("31 again", x.dump(), 0);
        Check.due("32 batches", x.batches(), 1);
        x.load(0, 61);
        x.pass(-1);
        x.pass(-1);
        Check.due("30 second", x.draw(), 1);
        Check.due("33 second", x.batchVolume(1), 3);
        Check.due("33 first", x.batchVolume(0), 1);
        Check.due("40 isBalanced", x.isBalanced(), true);
    }

    private static void grades() {
        char[] due = {'g', 'g', 'g', 'g', 'a', 'a', 'a', 'a', 'a', 'd', 'd', 'd'};
        for (int boiled = 0; boiled < due.length; boiled++) {
            SapNetwork x = filled(6);
            // The volume 1 + 5 * boiled needs this many hours while its least volume is low.
            x.load(0, boiled == 0 ? 1 : leastAfter(boiled) + 5 * boiled);
            x.setFire(1);
            due(x, boiled);
            for (int hour = 0; hour < boiled; hour++) {
                x.pass(-1);
            }
            // Hours in which nothing boils away do not count.
            x.pass(-1);
            x.pass(-1);
            x.draw();
            Check.due("34 after " + boiled + " hours", x.gradeOf(0), due[boiled]);
        }
    }

    /** A least volume that the sugar of itself and of 5 * boiled more comes to. */
    private static int leastAfter(int boiled) {
        int least = 1;
        while (least * 60 < 6 * (least + 5 * boiled)) {
            least++;
        }
        return least;
    }

    private static void hoursCountSinceThePanWasEmpty() {
        SapNetwork x = filled(6);
        x.setFire(1);
        x.load(0, 50);
        boilHours(x, 3);
        x.dump();
        // The least volume of 15 is 2, so 13 of steam
        x.load(0, 15);
        boilHours(x, 3);
        x.draw();
        Check.due("34 dump begins anew", x.gradeOf(0), 'g');
        x.load(0, 10);
        boilHours(x, 2);
        x.load(0, 10);
        x.setFire(0);
        boilHours(x, 3);
        x.setFire(1);
        boilHours(x, 2);
        x.draw();
        Check.due("34 a load goes on", x.gradeOf(1), 'a');
        x.load(0, 15);
        boilHours(x, 3);
        x.draw();
        Check.due("34 draw begins anew", x.gradeOf(2), 'g');
        Check.due("34 the first stays", x.gradeOf(0), 'g');
        Check.due("34 the second stays", x.gradeOf(1), 'a');
    }

    private static void boilHours(SapNetwork x, int hours) {
        for (int i = 0; i < hours; i++) {
            x.pass(-1);
        }
    }
}
