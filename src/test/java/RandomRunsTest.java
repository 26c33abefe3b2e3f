import java.util.function.Supplier;

/** Runs of 512 calls of all kinds, good and wrong ones, beside the plain model. */
final class RandomRunsTest {
    private static final int RUNS = 4000;
    private static final int CALLS = 512;
    private static final int[] FAR = {Integer.MIN_VALUE, -1000000, 1000000, Integer.MAX_VALUE};

    private final SapNetwork real = new SapNetwork();
    private final PlainModel model = new PlainModel();
    private final int run;
    private long state;

    private RandomRunsTest(int run) {
        this.run = run;
        this.state = run * 7919L + 1;
    }

    public static void main(String[] args) {
        for (int run = 0; run < RUNS; run++) {
            RandomRunsTest one = new RandomRunsTest(run);
            for (int call = 0; call < CALLS; call++) {
                one.step();
            }
        }
        Check.end("RandomRunsTest");
    }

    /** A number below the bound, by a rule that gives the same numbers in every run of the test. */
    private int below(int bound) {
        state = state * 6364136223846793005L + 1442695040888963407L;
        return (int) ((state >>> 33) % bound);
    }

    /** Mostly a number from least to most; at times one just beyond them, and seldom a far one. */
    private int about(int least, int most) {
        int way = below(80);
        if (way == 0) {
            return FAR[below(FAR.length)];
        }
        if (way < 5) {
            return way % 2 == 0 ? least - 1 : most + 1;
        }
        return least + below(most - least + 1);
    }

    private int node() {
        return about(0, model.nodes() - 1);
    }

    private void compare(String call, Supplier<Object> onReal, Supplier<Object> onModel) {
        Object due = Readings.answer(onModel);
        Check.due("run " + run + ": " + call, Readings.answer(onReal), due);
    }

    /** One call; in every fifth run most of them are hours, so that all hours pass. */
    private void step() {
        if (run % 5 == 0 && below(2) == 0) {
            passHour();
            return;
        }
        switch (below(12)) {
            case 0, 1 -> build();
            case 2 -> tend();
            case 3, 4 -> passHour();
            case 5, 6, 7, 8 -> cook();
            case 9 -> readTubes();
            case 10 -> readTaps();
            default -> readAccounts();
        }
    }

    private void build() {
        int parent = node();
        // In every third run the tubes are short, so that the vacuum reaches far.
        int drop = about(0, run % 3 == 0 ? 3 : 20);
        int rate = about(1, 20);
        int sweetness = about(1, 6);
        int shade = about(0, 5);
        int capacity = below(2) == 0 ? about(1, 60) : about(1, 5000);
        switch (below(5)) {
            case 0, 1 -> compare("addJunction(" + parent + ", " + drop + ")",
                    () -> real.addJunction(parent, drop), () -> model.addJunction(parent, drop));
            case 2, 3 -> compare("addTap(" + parent + ", " + drop + ", " + rate + ", ..)",
                    () -> real.addTap(parent, drop, rate, sweetness, shade),
                    () -> model.addTap(parent, drop, rate, sweetness, shade));
            default -> compare("addTank(" + capacity + ")",
                    () -> real.addTank(capacity), () -> model.addTank(capacity));
        }
    }

    private void tend() {
        int node = node();
        int size = about(1, run % 2 == 0 ? 5 : 30);
        int setting = about(run % 4 == 0 ? 80 : 0, 99);
        int level = about(0, 9);
        switch (below(5)) {
            case 0 -> compare("addLeak(" + node + ", " + size + ")",
                    () -> real.addLeak(node, size), () -> model.addLeak(node, size));
            case 1, 2 -> compare("repair(" + node + ")",
                    () -> real.repair(node), () -> model.repair(node));
            case 3 -> compare("setPump(" + setting + ")",
                    () -> real.setPump(setting), () -> model.setPump(setting));
            default -> compare("setFire(" + level + ")",
                    () -> real.setFire(level), () -> model.setFire(level));
        }
    }

    private void passHour() {
        int temperature = below(4) == 0 ? about(-30, 30) : below(12) - 4;
        compare("pass(" + temperature + ")",
                () -> real.pass(temperature), () -> model.pass(temperature));
    }

    private void cook() {
        int tank = about(0, 3);
        int volume = below(3) == 0 ? about(1, 500) : about(1, run % 2 == 0 ? 3 : 40);
        switch (below(16)) {
            case 0 -> compare("drain(" + tank + ")",
                    () -> real.drain(tank), () -> model.drain(tank));
            case 1 -> compare("dump()", real::dump, model::dump);
            case 2, 3, 4, 5, 6 -> compare("draw()", real::draw, model::draw);
            case 7 -> compare("isReady()", real::isReady, model::isReady);
            case 8 -> compare("hoursToReady()", real::hoursToReady, model::hoursToReady);
            case 9 -> compare("hoursByBoiling()", real::hoursByBoiling, model::hoursToReady);
            case 10 -> compare("panVolume()", real::panVolume, model::panVolume);
            case 11 -> compare("panSugar()", real::panSugar, model::panSugar);
            default -> compare("load(" + tank + ", " + volume + ")",
                    () -> real.load(tank, volume), () -> model.load(tank, volume));
        }
    }

    private void readTubes() {
        int node = node();
        int rank = about(0, 3);
        switch (below(6)) {
            case 0 -> compare("nodes()", real::nodes, model::nodes);
            case 1 -> compare("vacuum(" + node + ")",
                    () -> real.vacuum(node), () -> model.vacuum(node));
            case 2 -> compare("vacuumBySweep(" + node + ")",
                    () -> real.vacuumBySweep(node), () -> model.vacuum(node));
            case 3 -> compare("expectedVacuum(" + node + ")",
                    () -> real.expectedVacuum(node), () -> model.expectedVacuum(node));
            case 4 -> compare("suspect(" + rank + ")",
                    () -> real.suspect(rank), () -> model.suspect(rank));
            default -> compare("depth(" + node + ")",
                    () -> real.depth(node), () -> model.depth(node));
        }
    }

    private void readTaps() {
        int node = node();
        int hour = about(0, Math.max(0, model.hours() - 1));
        int rank = about(0, 6);
        switch (below(5)) {
            case 0 -> compare("hours()", real::hours, model::hours);
            case 1 -> compare("charge(" + node + ")",
                    () -> real.charge(node), () -> model.charge(node));
            case 2 -> compare("sapOf(" + node + ", " + hour + ")",
                    () -> real.sapOf(node, hour), () -> model.sapOf(node, hour));
            case 3 -> compare("totalOf(" + node + ")",
                    () -> real.totalOf(node), () -> model.totalOf(node));
            default -> compare("tapByYield(" + rank + ")",
                    () -> real.tapByYield(rank), () -> model.tapByYield(rank));
        }
    }

    private void readAccounts() {
        int tank = about(0, 3);
        int batch = about(0, Math.max(0, model.batches() - 1));
        switch (below(13)) {
            case 0 -> compare("tankVolume(" + tank + ")",
                    () -> real.tankVolume(tank), () -> model.tankVolume(tank));
            case 1 -> compare("tankSugar(" + tank + ")",
                    () -> real.tankSugar(tank), () -> model.tankSugar(tank));
            case 2 -> compare("batches()", real::batches, model::batches);
            case 3 -> compare("batchVolume(" + batch + ")",
                    () -> real.batchVolume(batch), () -> model.batchVolume(batch));
            case 4 -> compare("gradeOf(" + batch + ")",
                    () -> real.gradeOf(batch), () -> model.gradeOf(batch));
            case 5 -> compare("totalSap()", real::totalSap, model::totalSap);
            case 6 -> compare("steam()", real::steam, model::steam);
            case 7 -> compare("loss()", real::loss, model::loss);
            case 8 -> compare("lossByBalance()", real::lossByBalance, model::loss);
            case 9 -> compare("lostSugar()", real::lostSugar, model::lostSugar);
            case 10 -> compare("isBalanced()", real::isBalanced, () -> true);
            case 11 -> compare("lossShare()", real::lossShare, model::lossShare);
            default -> compare("meanSweetness()", real::meanSweetness, model::meanSweetness);
        }
    }
}
