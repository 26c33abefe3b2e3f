import java.util.function.IntUnaryOperator;
import java.util.function.Supplier;

/** What an object tells of its state, as one text. */
final class Readings {
    private static final int TANKS = 4;

    private Readings() {}

    /**
     * All that can be read without a change, but for the hours between the first and the last one
     * of each tap: a full network takes some 300 calls, so that 200 hours before it fit in 512.
     */
    static String of(SapNetwork x) {
        StringBuilder text = new StringBuilder();
        int nodes = x.nodes();
        int hours = x.hours();
        int batches = x.batches();
        text.append(nodes).append(' ').append(hours).append(' ').append(batches).append('\n');
        addRow(text, "vacuum", nodes, x::vacuum);
        addRow(text, "vacuumBySweep", nodes, x::vacuumBySweep);
        addRow(text, "expectedVacuum", nodes, x::expectedVacuum);
        addRow(text, "depth", nodes, x::depth);
        addRow(text, "charge", nodes, x::charge);
        addRow(text, "first sapOf", nodes, node -> x.sapOf(node, 0));
        addRow(text, "last sapOf", nodes, node -> x.sapOf(node, hours - 1));
        addRow(text, "totalOf", nodes, x::totalOf);
        addRow(text, "suspect", nodes, x::suspect);
        addRow(text, "tapByYield", nodes, x::tapByYield);
        addRow(text, "tankVolume", TANKS, x::tankVolume);
        addRow(text, "tankSugar", TANKS, x::tankSugar);
        add(text, "panVolume", x::panVolume);
        add(text, "panSugar", x::panSugar);
        add(text, "isReady", x::isReady);
        add(text, "hoursToReady", x::hoursToReady);
        add(text, "hoursByBoiling", x::hoursByBoiling);
        addRow(text, "batchVolume", batches, x::batchVolume);
        addRow(text, "gradeOf", batches, x::gradeOf);
        add(text, "totalSap", x::totalSap);
        add(text, "steam", x::steam);
        add(text, "loss", x::loss);
        add(text, "lossByBalance", x::lossByBalance);
        add(text, "lostSugar", x::lostSugar);
        add(text, "isBalanced", x::isBalanced);
        add(text, "lossShare", x::lossShare);
        add(text, "meanSweetness", x::meanSweetness);
        return text.toString();
    }

    /**
     * The answers of a row of changing calls: they show what no reading does, such as the sizes of
     * leaks, the level of the fire, rates, shades, capacities and boiled hours.
     */
    static String ofNextCalls(SapNetwork x) {
        StringBuilder text = new StringBuilder();
        add(text, "setPump", () -> x.setPump(99));
        addRow(text, "repair", x.nodes(), x::repair);
        add(text, "setFire", () -> x.setFire(9));
        add(text, "frost", () -> x.pass(-30));
        add(text, "thaw in the sun", () -> x.pass(0));
        add(text, "thaw", () -> x.pass(30));
        add(text, "ready", x::isReady);
        add(text, "draw", x::draw);
        add(text, "grade", () -> x.gradeOf(x.batches() - 1));
        addRow(text, "drain", TANKS, x::drain);
        add(text, "lostSugar", x::lostSugar);
        add(text, "addTank", () -> x.addTank(1));
        add(text, "addJunction", () -> x.addJunction(0, 0));
        return text.toString();
    }

    private static void addRow(
            StringBuilder text, String name, int size, IntUnaryOperator reading) {
        for (int i = 0; i < size; i++) {
            int at = i;
            add(text, name + "(" + i + ")", () -> reading.applyAsInt(at));
        }
    }

    private static void add(StringBuilder text, String name, Supplier<Object> reading) {
        text.append(name).append('=').append(answer(reading)).append('\n');
    }

    /** What a call answers, or the name of what it throws. */
    static Object answer(Supplier<Object> call) {
        try {
            return call.get();
        } catch (RuntimeException e) {
            return e.getClass().getSimpleName();
        }
    }
}
