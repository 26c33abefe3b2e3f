import java.util.NoSuchElementException;

/**
 * A network of tubes that collects the sap of maple trees, the tanks that it runs into, the pan in
 * which it is boiled to syrup, and the accounts of its volume and sugar.
 */
public final class SapNetwork {
    private static final int PUMP = 0;
    private static final int MAX_NODES = 20;
    private static final int MAX_DROP = 20;
    private static final int MAX_RATE = 20;
    private static final int MAX_SWEETNESS = 6;
    private static final int MAX_SHADE = 5;
    private static final int MAX_CHARGE = 9;
    private static final int MAX_LEAK = 30;
    private static final int MAX_SETTING = 99;
    private static final int MAX_TEMPERATURE = 30;
    private static final int MAX_HOURS = 200;
    private static final int MAX_TANKS = 4;
    private static final int MAX_CAPACITY = 5000;
    private static final int MAX_IN_PAN = 500;
    private static final int MAX_FIRE = 9;
    private static final int STEAM_PER_LEVEL = 5;
    private static final int SUGAR_OF_SYRUP = 60;
    private static final int MAX_BATCHES = 30;
    private static final int MAX_HOURS_OF_GOLDEN = 3;
    private static final int MAX_HOURS_OF_AMBER = 8;
    private static final int UNRANKED = -1;

    private final Tubes tubes;
    private final Tap[] taps;
    private final Tank[] tanks;
    private final Pan pan;
    private final Pan trialPan;
    private final Syrup syrup;
    private final Accounts accounts;
    private final int[] worths;
    private int tankCount;
    private int fire;
    private int hoursPassed;

    public SapNetwork() {
        tubes = new Tubes();
        taps = new Tap[MAX_NODES];
        tanks = new Tank[MAX_TANKS];
        pan = new Pan();
        trialPan = new Pan();
        syrup = new Syrup();
        accounts = new Accounts();
        worths = new int[MAX_NODES];
    }

    // ---- tubes and leaks

    public int addJunction(int parent, int drop)
            throws IndexOutOfBoundsException, IllegalArgumentException,
                    UnsupportedOperationException, IllegalStateException {
        requireNode(parent);
        if (isOutside(drop, 0, MAX_DROP)) {
            throw new IllegalArgumentException("the drop is out of range");
        }
        requireRoomBelow(parent);
        return tubes.join(parent, drop);
    }

    public int addTap(int parent, int drop, int rate, int sweetness, int shade)
            throws IndexOutOfBoundsException, IllegalArgumentException,
                    UnsupportedOperationException, IllegalStateException {
        requireNode(parent);
        if (isOutside(drop, 0, MAX_DROP)
                || isOutside(rate, 1, MAX_RATE)
                || isOutside(sweetness, 1, MAX_SWEETNESS)
                || isOutside(shade, 0, MAX_SHADE)) {
            throw new IllegalArgumentException("a property of the tap is out of range");
        }
        requireRoomBelow(parent);
        int node = tubes.join(parent, drop);
        taps[node] = new Tap(rate, sweetness, shade);
        return node;
    }

    public int setPump(int setting) throws IllegalArgumentException {
        if (isOutside(setting, 0, MAX_SETTING)) {
            throw new IllegalArgumentException("the setting is out of range");
        }
        return tubes.replaceSetting(setting);
    }

    public int addLeak(int node, int size)
            throws IndexOutOfBoundsException, IllegalArgumentException {
        requireNode(node);
        if (isOutside(size, 1, MAX_LEAK)) {
            throw new IllegalArgumentException("the size is out of range");
        }
        return tubes.replaceLeak(node, size);
    }

    public int repair(int node) throws IndexOutOfBoundsException, NoSuchElementException {
        requireNode(node);
        if (!tubes.isLeaking(node)) {
            throw new NoSuchElementException("the node has no leak");
        }
        return tubes.replaceLeak(node, 0);
    }

    public int nodes() {
        return tubes.size();
    }

    public int vacuum(int node) throws IndexOutOfBoundsException {
        requireNode(node);
        return Tubes.climb(tubes, node, MAX_NODES);
    }

    public int vacuumBySweep(int node) throws IndexOutOfBoundsException {
        requireNode(node);
        tubes.sweep();
        return tubes.vacuums[node];
    }

    public int expectedVacuum(int node) throws IndexOutOfBoundsException {
        requireNode(node);
        tubes.sweep();
        return tubes.expectations[node];
    }

    public int suspect(int rank) throws NoSuchElementException {
        tubes.sweep();
        for (int node = 0; node < tubes.size(); node++) {
            int ownLoss = tubes.ownLossAt(node);
            worths[node] = ownLoss > 0 ? ownLoss : UNRANKED;
        }
        return requireRanked(rank);
    }

    public int depth(int node) throws IndexOutOfBoundsException {
        requireNode(node);
        return tubes.tubesAbove(node);
    }

    // ---- hours and taps

    public int pass(int temperature) throws IllegalArgumentException, IllegalStateException {
        if (isOutside(temperature, -MAX_TEMPERATURE, MAX_TEMPERATURE)) {
            throw new IllegalArgumentException("the temperature is out of range");
        }
        if (hoursPassed >= MAX_HOURS) {
            throw new IllegalStateException("all hours have passed");
        }
        int volume = runTaps(temperature);
        accounts.addSteam(pan.boil(fire));
        hoursPassed++;
        return volume;
    }

    public int hours() {
        return hoursPassed;
    }

    public int charge(int node) throws IndexOutOfBoundsException, UnsupportedOperationException {
        return requireTap(node).charge;
    }

    public int sapOf(int node, int hour)
            throws IndexOutOfBoundsException, UnsupportedOperationException,
                    NoSuchElementException {
        Tap tap = requireTap(node);
        if (hour < 0 || hour >= hoursPassed) {
            throw new NoSuchElementException("this hour has not passed");
        }
        return tap.given[hour];
    }

    public int totalOf(int node) throws IndexOutOfBoundsException, UnsupportedOperationException {
        return requireTap(node).givenInAll;
    }

    public int tapByYield(int rank) throws NoSuchElementException {
        for (int node = 0; node < tubes.size(); node++) {
            Tap tap = taps[node];
            worths[node] = tap == null ? UNRANKED : tap.givenInAll;
        }
        return requireRanked(rank);
    }

    // ---- tanks

    public int addTank(int capacity) throws IllegalArgumentException, IllegalStateException {
        if (isOutside(capacity, 1, MAX_CAPACITY)) {
            throw new IllegalArgumentException("the capacity is out of range");
        }
        if (tankCount >= MAX_TANKS) {
            throw new IllegalStateException("there is no place for another tank");
        }
        int tank = tankCount;
        tanks[tank] = new Tank(capacity);
        tankCount = tank + 1;
        return tank;
    }

    public int drain(int tank) throws IndexOutOfBoundsException {
        Tank drained = requireTank(tank);
        int volume = drained.volume;
        int sugar = drained.sugar;
        drained.takeOut(volume, sugar);
        accounts.addLoss(volume, sugar);
        return volume;
    }

    public int tankVolume(int tank) throws IndexOutOfBoundsException {
        return requireTank(tank).volume;
    }

    public int tankSugar(int tank) throws IndexOutOfBoundsException {
        return requireTank(tank).sugar;
    }

    // ---- pan and syrup

    public int load(int tank, int volume)
            throws IndexOutOfBoundsException, IllegalArgumentException,
                    UnsupportedOperationException, IllegalStateException {
        Tank source = requireTank(tank);
        if (isOutside(volume, 1, MAX_IN_PAN)) {
            throw new IllegalArgumentException("the volume is out of range");
        }
        if (volume > source.volume) {
            throw new UnsupportedOperationException("the tank contains less");
        }
        if (volume > MAX_IN_PAN - pan.volume) {
            throw new IllegalStateException("the pan would contain too much");
        }
        int sugar = shareOfSugar(source.sugar, volume, source.volume);
        source.takeOut(volume, sugar);
        pan.fill(volume, sugar);
        return pan.volume;
    }

    public int setFire(int level) throws IllegalArgumentException {
        if (isOutside(level, 0, MAX_FIRE)) {
            throw new IllegalArgumentException("the level is out of range");
        }
        int before = fire;
        fire = level;
        return before;
    }

    public int panVolume() {
        return pan.volume;
    }

    public int panSugar() {
        return pan.sugar;
    }

    public boolean isReady() {
        return pan.isSyrup();
    }

    public int hoursToReady() throws NoSuchElementException {
        requireEndOfBoiling();
        int steamPerHour = STEAM_PER_LEVEL * fire;
        if (pan.isSyrup() || steamPerHour <= 0) {
            return 0;
        }
        int steamToCome = pan.volume - pan.leastVolume();
        return (steamToCome + steamPerHour - 1) / steamPerHour;
    }

    public int hoursByBoiling() throws NoSuchElementException {
        requireEndOfBoiling();
        trialPan.copy(pan);
        int boiling = 0;
        while (boiling < MAX_IN_PAN && !trialPan.isSyrup()) {
            trialPan.boil(fire);
            boiling++;
        }
        return boiling;
    }

    public int draw() throws UnsupportedOperationException, IllegalStateException {
        if (!pan.isSyrup()) {
            throw new UnsupportedOperationException("the pan is not ready");
        }
        if (syrup.isFull()) {
            throw new IllegalStateException("no more batches can be drawn");
        }
        int batch = syrup.keep(pan.volume, pan.sugar, gradeAfter(pan.boiledHours));
        pan.clear();
        return batch;
    }

    public int dump() {
        int volume = pan.volume;
        accounts.addLoss(volume, pan.sugar);
        pan.clear();
        return volume;
    }

    public int batches() {
        return syrup.size();
    }

    public int batchVolume(int batch) throws IndexOutOfBoundsException {
        requireBatch(batch);
        return syrup.volumes[batch];
    }

    public char gradeOf(int batch) throws IndexOutOfBoundsException {
        requireBatch(batch);
        return syrup.grades[batch];
    }

    // ---- accounts

    public long totalSap() {
        return accounts.sapVolume;
    }

    public long steam() {
        return accounts.steamVolume;
    }

    public long loss() {
        return accounts.lossVolume;
    }

    public long lossByBalance() {
        return accounts.sapVolume
                - accounts.steamVolume
                - syrup.volumeOfAll()
                - volumeInTanks()
                - pan.volume;
    }

    public long lostSugar() {
        return accounts.lossSugar;
    }

    public boolean isBalanced() {
        long sugar = accounts.lossSugar + syrup.sugar + sugarInTanks() + pan.sugar;
        return loss() == lossByBalance() && accounts.sapSugar == sugar;
    }

    public float lossShare() throws ArithmeticException {
        requireSap();
        return (float) accounts.lossVolume / (float) accounts.sapVolume;
    }

    public double meanSweetness() throws ArithmeticException {
        requireSap();
        return (double) accounts.sapSugar / (double) accounts.sapVolume;
    }

    // ---- what the calls have in common

    private void requireNode(int node) {
        if (!tubes.has(node)) {
            throw new IndexOutOfBoundsException("there is no such node");
        }
    }

    private void requireRoomBelow(int parent) {
        if (taps[parent] != null) {
            throw new UnsupportedOperationException("the parent is a tap");
        }
        if (tubes.isFull()) {
            throw new IllegalStateException("there is no place for another node");
        }
    }

    private Tap requireTap(int node) {
        requireNode(node);
        Tap tap = taps[node];
        if (tap == null) {
            throw new UnsupportedOperationException("the node is not a tap");
        }
        return tap;
    }

    private Tank requireTank(int number) {
        Tank tank = number < 0 || number >= tanks.length ? null : tanks[number];
        if (tank == null) {
            throw new IndexOutOfBoundsException("there is no such tank");
        }
        return tank;
    }

    private void requireBatch(int batch) {
        if (!syrup.has(batch)) {
            throw new IndexOutOfBoundsException("there is no such batch");
        }
    }

    private void requireEndOfBoiling() {
        if (pan.volume == 0) {
            throw new NoSuchElementException("the pan is empty");
        }
        if (fire == 0 && !pan.isSyrup()) {
            throw new NoSuchElementException("there is no fire");
        }
    }

    private void requireSap() {
        if (accounts.sapVolume == 0) {
            throw new ArithmeticException("no sap came");
        }
    }

    private int requireRanked(int rank) {
        int node = nodeAt(rank);
        if (node == UNRANKED) {
            throw new NoSuchElementException("there is no such rank");
        }
        return node;
    }

    private int nodeAt(int rank) {
        for (int node = 0; node < tubes.size(); node++) {
            if (worths[node] != UNRANKED && nodesAhead(node) == rank) {
                return node;
            }
        }
        return UNRANKED;
    }

    private int nodesAhead(int node) {
        int ahead = 0;
        for (int other = 0; other < tubes.size(); other++) {
            boolean isAhead =
                    worths[other] > worths[node] || worths[other] == worths[node] && other < node;
            if (isAhead) {
                ahead++;
            }
        }
        return ahead;
    }

    private int runTaps(int temperature) {
        tubes.sweep();
        int volume = 0;
        int sugar = 0;
        for (int node = 0; node < tubes.size(); node++) {
            Tap tap = taps[node];
            if (tap != null) {
                int given = tap.run(hoursPassed, temperature, tubes.vacuums[node]);
                volume += given;
                sugar += given * tap.sweetness;
            }
        }
        accounts.addSap(volume, sugar);
        pour(volume, sugar);
        return volume;
    }

    private void pour(int volume, int sugar) {
        int volumeLeft = volume;
        int sugarLeft = sugar;
        for (int i = 0; i < tanks.length; i++) {
            Tank tank = tanks[i];
            if (tank != null) {
                int staying = Math.min(volumeLeft, tank.room());
                int sugarStaying = shareOfSugar(sugarLeft, staying, volumeLeft);
                tank.putIn(staying, sugarStaying);
                volumeLeft -= staying;
                sugarLeft -= sugarStaying;
            }
        }
        accounts.addLoss(volumeLeft, sugarLeft);
    }

    private long volumeInTanks() {
        long volume = 0;
        for (int i = 0; i < tanks.length; i++) {
            Tank tank = tanks[i];
            volume += tank == null ? 0 : tank.volume;
        }
        return volume;
    }

    private long sugarInTanks() {
        long sugar = 0;
        for (int i = 0; i < tanks.length; i++) {
            Tank tank = tanks[i];
            sugar += tank == null ? 0 : tank.sugar;
        }
        return sugar;
    }

    private static int shareOfSugar(int sugar, int part, int whole) {
        if (whole <= 0 || part >= whole) {
            return sugar;
        }
        return (int) ((long) sugar * part / whole);
    }

    private static char gradeAfter(int boiledHours) {
        if (boiledHours <= MAX_HOURS_OF_GOLDEN) {
            return 'g';
        }
        return boiledHours <= MAX_HOURS_OF_AMBER ? 'a' : 'd';
    }

    private static boolean isOutside(int value, int least, int most) {
        return value < least || value > most;
    }

    /** The nodes by their numbers; a parent's number is always lower than that of its node. */
    private static final class Tubes {
        private final int[] parents;
        private final int[] drops;
        private final int[] leaks;
        private final int[] vacuums;
        private final int[] expectations;
        private int count;
        private int setting;

        Tubes() {
            parents = new int[MAX_NODES];
            drops = new int[MAX_NODES];
            leaks = new int[MAX_NODES];
            vacuums = new int[MAX_NODES];
            expectations = new int[MAX_NODES];
            count = 1;
        }

        int size() {
            return count;
        }

        boolean has(int node) {
            return node >= 0 && node < count;
        }

        boolean isFull() {
            return count >= MAX_NODES;
        }

        int join(int parent, int drop) {
            int node = count;
            parents[node] = parent;
            drops[node] = drop;
            count = node + 1;
            return node;
        }

        int replaceSetting(int newSetting) {
            int before = setting;
            setting = newSetting;
            return before;
        }

        boolean isLeaking(int node) {
            return leaks[node] > 0;
        }

        int replaceLeak(int node, int size) {
            int before = leaks[node];
            leaks[node] = size;
            return before;
        }

        int pumpVacuum() {
            int left = setting - leaks[PUMP];
            for (int node = 0; node < count; node++) {
                left -= leaks[node];
            }
            return Math.max(0, left);
        }

        private static int climb(Tubes tubes, int node, int levelsLeft) {
            if (node <= PUMP || levelsLeft <= 0) {
                return tubes.pumpVacuum();
            }
            int above = climb(tubes, tubes.parents[node], levelsLeft - 1);
            return Math.max(0, above - tubes.drops[node] - tubes.leaks[node]);
        }

        void sweep() {
            vacuums[PUMP] = pumpVacuum();
            expectations[PUMP] = setting;
            for (int node = PUMP + 1; node < count; node++) {
                int parent = parents[node];
                vacuums[node] = Math.max(0, vacuums[parent] - drops[node] - leaks[node]);
                expectations[node] = Math.max(0, expectations[parent] - drops[node]);
            }
        }

        int ownLossAt(int node) {
            return node == PUMP ? lossAt(node) : lossAt(node) - lossAt(parents[node]);
        }

        private int lossAt(int node) {
            return expectations[node] - vacuums[node];
        }

        int tubesAbove(int node) {
            int above = 0;
            for (int at = node; at > PUMP && above < MAX_NODES; at = parents[at]) {
                above++;
            }
            return above;
        }
    }

    /** What a tap is, and what it gave in each hour. */
    private static final class Tap {
        private final int rate;
        private final int sweetness;
        private final int shade;
        private final int[] given;
        private int charge;
        private int givenInAll;

        Tap(int rate, int sweetness, int shade) {
            this.rate = rate;
            this.sweetness = sweetness;
            this.shade = shade;
            given = new int[MAX_HOURS];
        }

        int run(int hour, int temperature, int vacuum) {
            int volume = 0;
            if (temperature - shade < 0) {
                charge = Math.min(MAX_CHARGE, charge + 1);
            } else if (charge > 0) {
                volume = rate * (20 + vacuum) / 20;
                charge--;
            } else {
                volume = rate * vacuum / 100;
            }
            given[hour] = volume;
            givenInAll += volume;
            return volume;
        }
    }

    private static final class Tank {
        private final int capacity;
        private int volume;
        private int sugar;

        Tank(int capacity) {
            this.capacity = capacity;
        }

        int room() {
            return capacity - volume;
        }

        void putIn(int moreVolume, int moreSugar) {
            volume += moreVolume;
            sugar += moreSugar;
        }

        void takeOut(int lessVolume, int lessSugar) {
            volume -= lessVolume;
            sugar -= lessSugar;
        }
    }

    private static final class Pan {
        private int volume;
        private int sugar;
        private int boiledHours;

        int leastVolume() {
            return (sugar + SUGAR_OF_SYRUP - 1) / SUGAR_OF_SYRUP;
        }

        boolean isSyrup() {
            return volume > 0 && volume <= leastVolume();
        }

        void fill(int moreVolume, int moreSugar) {
            volume += moreVolume;
            sugar += moreSugar;
        }

        int boil(int level) {
            int before = volume;
            int boiledDown = Math.max(leastVolume(), before - STEAM_PER_LEVEL * level);
            if (boiledDown < before) {
                volume = boiledDown;
                boiledHours++;
            }
            return before - volume;
        }

        void copy(Pan other) {
            volume = other.volume;
            sugar = other.sugar;
            boiledHours = other.boiledHours;
        }

        void clear() {
            volume = 0;
            sugar = 0;
            boiledHours = 0;
        }
    }

    private static final class Syrup {
        private final int[] volumes;
        private final char[] grades;
        private int count;
        private long sugar;

        Syrup() {
            volumes = new int[MAX_BATCHES];
            grades = new char[MAX_BATCHES];
        }

        int size() {
            return count;
        }

        boolean isFull() {
            return count >= MAX_BATCHES;
        }

        boolean has(int batch) {
            return batch >= 0 && batch < count;
        }

        int keep(int volume, int moreSugar, char grade) {
            int batch = count;
            volumes[batch] = volume;
            grades[batch] = grade;
            sugar += moreSugar;
            count = batch + 1;
            return batch;
        }

        long volumeOfAll() {
            long volume = 0;
            for (int batch = 0; batch < count; batch++) {
                volume += volumes[batch];
            }
            return volume;
        }
    }

    private static final class Accounts {
        private long sapVolume;
        private long sapSugar;
        private long steamVolume;
        private long lossVolume;
        private long lossSugar;

        void addSap(int volume, int sugar) {
            sapVolume += volume;
            sapSugar += sugar;
        }

        void addSteam(int volume) {
            steamVolume += volume;
        }

        void addLoss(int volume, int sugar) {
            lossVolume += volume;
            lossSugar += sugar;
        }
    }
}
