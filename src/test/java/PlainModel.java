import java.util.ArrayList;
import java.util.Comparator;
import java.util.List;
import java.util.NoSuchElementException;
import java.util.function.ToIntFunction;

/**
 * The document once more, in lists and streams and without a thought of speed, kept apart from the
 * class: it keeps what happened and finds each reading anew from that where the class keeps sums.
 */
final class PlainModel {
    private static final class Node {
        final int number;
        final Node parent;
        final int drop;
        final boolean isTap;
        final List<Integer> sap = new ArrayList<>();
        int leak = 0;
        int rate = 0;
        int sweetness = 0;
        int shade = 0;
        int charge = 0;

        Node(int number, Node parent, int drop, boolean isTap) {
            this.number = number;
            this.parent = parent;
            this.drop = drop;
            this.isTap = isTap;
        }

        int total() {
            return sap.stream().mapToInt(Integer::intValue).sum();
        }
    }

    /** A volume with its sugar: in a tank, in the pan, a batch, lost, or come from a tap. */
    private static final class Sap {
        long volume;
        long sugar;

        Sap(long volume, long sugar) {
            this.volume = volume;
            this.sugar = sugar;
        }

        Sap part(long part) {
            Sap taken = new Sap(part, part == volume ? sugar : Math.floorDiv(sugar * part, volume));
            volume -= taken.volume;
            sugar -= taken.sugar;
            return taken;
        }

        void add(Sap more) {
            volume += more.volume;
            sugar += more.sugar;
        }
    }

    private final List<Node> nodes = new ArrayList<>(List.of(new Node(0, null, 0, false)));
    private final List<Sap> tanks = new ArrayList<>();
    private final List<Integer> capacities = new ArrayList<>();
    private final List<Sap> batches = new ArrayList<>();
    private final List<Character> grades = new ArrayList<>();
    private final List<Sap> came = new ArrayList<>();
    private final List<Sap> lost = new ArrayList<>();
    private final List<Long> steams = new ArrayList<>();
    private Sap pan = new Sap(0, 0);
    private int boiledHours = 0;
    private int setting = 0;
    private int fire = 0;
    private int hours = 0;

    private Node node(int number) {
        check(number >= 0 && number < nodes.size(), new IndexOutOfBoundsException());
        return nodes.get(number);
    }

    private Node tap(int number) {
        Node node = node(number);
        check(node.isTap, new UnsupportedOperationException());
        return node;
    }

    private Sap tank(int number) {
        check(number >= 0 && number < tanks.size(), new IndexOutOfBoundsException());
        return tanks.get(number);
    }

    private static void check(boolean holds, RuntimeException otherwise) {
        if (!holds) {
            throw otherwise;
        }
    }

    private static boolean in(int value, int from, int to) {
        return from <= value && value <= to;
    }

    int addJunction(int parent, int drop) {
        return add(parent, drop, true, false).number;
    }

    int addTap(int parent, int drop, int rate, int sweetness, int shade) {
        boolean good = in(rate, 1, 20) && in(sweetness, 1, 6) && in(shade, 0, 5);
        Node tap = add(parent, drop, good, true);
        tap.rate = rate;
        tap.sweetness = sweetness;
        tap.shade = shade;
        for (int hour = 0; hour < hours; hour++) {
            tap.sap.add(0);
        }
        return tap.number;
    }

    private Node add(int parent, int drop, boolean good, boolean isTap) {
        Node above = node(parent);
        check(good && in(drop, 0, 20), new IllegalArgumentException());
        check(!above.isTap, new UnsupportedOperationException());
        check(nodes.size() < 20, new IllegalStateException());
        Node node = new Node(nodes.size(), above, drop, isTap);
        nodes.add(node);
        return node;
    }

    int setPump(int newSetting) {
        check(in(newSetting, 0, 99), new IllegalArgumentException());
        int before = setting;
        setting = newSetting;
        return before;
    }

    int addLeak(int number, int size) {
        Node node = node(number);
        check(in(size, 1, 30), new IllegalArgumentException());
        int before = node.leak;
        node.leak = size;
        return before;
    }

    int repair(int number) {
        Node node = node(number);
        check(node.leak != 0, new NoSuchElementException());
        int before = node.leak;
        node.leak = 0;
        return before;
    }

    int nodes() {
        return nodes.size();
    }

    int vacuum(int number) {
        return vacuum(node(number), true);
    }

    int expectedVacuum(int number) {
        return vacuum(node(number), false);
    }

    private int vacuum(Node node, boolean withLeaks) {
        int above = node.parent == null ? setting : vacuum(node.parent, withLeaks) - node.drop;
        int leak = withLeaks ? node.leak : 0;
        if (node.parent == null && withLeaks) {
            leak += nodes.stream().mapToInt(one -> one.leak).sum();
        }
        return above > leak ? above - leak : 0;
    }

    private int loss(Node node) {
        return node == null ? 0 : vacuum(node, false) - vacuum(node, true);
    }

    private int ownLoss(Node node) {
        return loss(node) - loss(node.parent);
    }

    int suspect(int rank) {
        List<Node> suspects = nodes.stream().filter(node -> ownLoss(node) > 0).toList();
        return ranked(suspects, this::ownLoss, rank);
    }

    int tapByYield(int rank) {
        return ranked(nodes.stream().filter(node -> node.isTap).toList(), Node::total, rank);
    }

    /** The sort is stable, so that of equal nodes the one with the lower number stays first. */
    private static int ranked(List<Node> some, ToIntFunction<Node> worth, int rank) {
        check(rank >= 0 && rank < some.size(), new NoSuchElementException());
        Comparator<Node> order = Comparator.comparingInt(worth);
        return some.stream().sorted(order.reversed()).toList().get(rank).number;
    }

    int depth(int number) {
        Node node = node(number);
        return node.parent == null ? 0 : 1 + depth(node.parent.number);
    }

    int pass(int temperature) {
        check(in(temperature, -30, 30), new IllegalArgumentException());
        check(hours < 200, new IllegalStateException());
        Sap all = new Sap(0, 0);
        for (Node node : nodes) {
            if (node.isTap) {
                int volume = give(node, temperature - node.shade);
                node.sap.add(volume);
                all.add(new Sap(volume, (long) volume * node.sweetness));
            }
        }
        came.add(new Sap(all.volume, all.sugar));
        int given = (int) all.volume;
        for (int tank = 0; tank < tanks.size(); tank++) {
            long room = capacities.get(tank) - tanks.get(tank).volume;
            tanks.get(tank).add(all.part(Math.min(room, all.volume)));
        }
        lost.add(all);
        long steam = steamOf(pan);
        pan.volume -= steam;
        steams.add(steam);
        boiledHours += steam > 0 ? 1 : 0;
        hours++;
        return given;
    }

    private int give(Node tap, int temperature) {
        if (temperature < 0) {
            tap.charge += tap.charge < 9 ? 1 : 0;
            return 0;
        }
        int vacuum = vacuum(tap, true);
        if (tap.charge == 0) {
            return Math.floorDiv(tap.rate * vacuum, 100);
        }
        tap.charge--;
        return Math.floorDiv(tap.rate * (20 + vacuum), 20);
    }

    private static long least(Sap sap) {
        return -Math.floorDiv(-sap.sugar, 60L);
    }

    private long steamOf(Sap sap) {
        return Math.max(0, Math.min(5L * fire, sap.volume - least(sap)));
    }

    int hours() {
        return hours;
    }

    int charge(int number) {
        return tap(number).charge;
    }

    int sapOf(int number, int hour) {
        Node tap = tap(number);
        check(in(hour, 0, hours - 1), new NoSuchElementException());
        return tap.sap.get(hour);
    }

    int totalOf(int number) {
        return tap(number).total();
    }

    int addTank(int capacity) {
        check(in(capacity, 1, 5000), new IllegalArgumentException());
        check(tanks.size() < 4, new IllegalStateException());
        tanks.add(new Sap(0, 0));
        capacities.add(capacity);
        return tanks.size() - 1;
    }

    int drain(int number) {
        Sap tank = tank(number);
        lost.add(tank);
        tanks.set(number, new Sap(0, 0));
        return (int) tank.volume;
    }

    int tankVolume(int number) {
        return (int) tank(number).volume;
    }

    int tankSugar(int number) {
        return (int) tank(number).sugar;
    }

    int load(int number, int volume) {
        Sap tank = tank(number);
        check(in(volume, 1, 500), new IllegalArgumentException());
        check(volume <= tank.volume, new UnsupportedOperationException());
        check(volume + pan.volume <= 500, new IllegalStateException());
        pan.add(tank.part(volume));
        return (int) pan.volume;
    }

    int setFire(int level) {
        check(in(level, 0, 9), new IllegalArgumentException());
        int before = fire;
        fire = level;
        return before;
    }

    int panVolume() {
        return (int) pan.volume;
    }

    int panSugar() {
        return (int) pan.sugar;
    }

    boolean isReady() {
        return pan.volume > 0 && pan.volume <= least(pan);
    }

    int hoursToReady() {
        check(pan.volume > 0 && (isReady() || fire > 0), new NoSuchElementException());
        Sap copy = new Sap(pan.volume, pan.sugar);
        int boiling = 0;
        while (copy.volume > least(copy)) {
            copy.volume -= steamOf(copy);
            boiling++;
        }
        return boiling;
    }

    int draw() {
        check(isReady(), new UnsupportedOperationException());
        check(batches.size() < 30, new IllegalStateException());
        batches.add(pan);
        grades.add(boiledHours <= 3 ? 'g' : boiledHours <= 8 ? 'a' : 'd');
        pan = new Sap(0, 0);
        boiledHours = 0;
        return batches.size() - 1;
    }

    int dump() {
        lost.add(pan);
        int volume = (int) pan.volume;
        pan = new Sap(0, 0);
        boiledHours = 0;
        return volume;
    }

    int batches() {
        return batches.size();
    }

    int batchVolume(int batch) {
        check(in(batch, 0, batches.size() - 1), new IndexOutOfBoundsException());
        return (int) batches.get(batch).volume;
    }

    char gradeOf(int batch) {
        check(in(batch, 0, batches.size() - 1), new IndexOutOfBoundsException());
        return grades.get(batch);
    }

    private static Sap sum(List<Sap> all) {
        Sap sum = new Sap(0, 0);
        all.forEach(sum::add);
        return sum;
    }

    long totalSap() {
        return sum(came).volume;
    }

    long steam() {
        return steams.stream().mapToLong(Long::longValue).sum();
    }

    long loss() {
        return sum(lost).volume;
    }

    long lostSugar() {
        return sum(lost).sugar;
    }

    float lossShare() {
        check(totalSap() > 0, new ArithmeticException());
        return (float) loss() / (float) totalSap();
    }

    double meanSweetness() {
        check(totalSap() > 0, new ArithmeticException());
        return (double) sum(came).sugar / (double) totalSap();
    }
}
