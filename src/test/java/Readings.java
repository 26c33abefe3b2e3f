import java.util.function.IntUnaryOperator;
import java.util.function.Supplier;

/** All that can be read from an object without a change, as one text. */
final class Readings {
    private Readings() {}

    static String of(SapNetwork x) {
        StringBuilder text = new StringBuilder();
        int nodes = x.nodes();
        int hours = x.hours();
        add(text, "nodes", () -> nodes);
        add(text, "hours", () -> hours);
        addRow(text, "vacuum", nodes, x::vacuum);
        addRow(text, "vacuumBySweep", nodes, x::vacuumBySweep);
        addRow(text, "expectedVacuum", nodes, x::expectedVacuum);
        addRow(text, "depth", nodes, x::depth);
        addRow(text, "charge", nodes, x::charge);
        addRow(text, "totalOf", nodes, x::totalOf);
        for (int node = 0; node < nodes; node++) {
            int tap = node;
            addRow(text, "sapOf", hours, hour -> x.sapOf(tap, hour));
        }
        addRow(text, "suspect", nodes, x::suspect);
        addRow(text, "tapByYield", nodes, x::tapByYield);
        addRow(text, "tankVolume", 4, x::tankVolume);
        addRow(text, "tankSugar", 4, x::tankSugar);
        add(text, "panVolume", x::panVolume);
        add(text, "panSugar", x::panSugar);
        add(text, "isReady", x::isReady);
        add(text, "hoursToReady", x::hoursToReady);
        add(text, "hoursByBoiling", x::hoursByBoiling);
        add(text, "batches", x::batches);
        addRow(text, "batchVolume", x.batches(), x::batchVolume);
        addRow(text, "gradeOf", x.batches(), x::gradeOf);
        add(text, "totalSap", x::totalSap);
        add(text, "steam", x::steam);
        add(text, "loss", x::loss);
        add(text, "lossByBalance", x::lossByBalance);
        add(text, "lostSugar", x::lostSugar);
        add(text, "isBalanced", x::isBalanced);
        add(text, "lossShare", x::lossShare);
        add(text, "meanSweetness", x::meanSweetness);
        return text.toString();
    }

    private static void addRow(
            StringBuilder text, String name, int size, IntUnaryOperator reading) {
        for (int i = 0; i < size; i++) {
            int at = i;
            add(text, name + "(" + i + ")", () -> reading.applyAsInt(at));
        }
    }

    private static void add(StringBuilder text, String name, Supplier<Object> reading) {
        text.append(name).append('=').append(answer(reading)).append('\n');
    }

    /** What a reading answers, or the name of what it throws. */
    static Object answer(Supplier<Object> reading) {
        try {
            return reading.get();
        } catch (RuntimeException e) {
            return e.getClass().getSimpleName();
        }
    }
}
