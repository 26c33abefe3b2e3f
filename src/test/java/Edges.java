import java.util.LinkedHashSet;
import java.util.NoSuchElementException;
import java.util.Set;
import java.util.function.Consumer;
import java.util.function.Supplier;
import java.util.stream.IntStream;

/**
 * What the tests of single sentences have in common. Each of them quotes the sentence of the
 * document that it would see broken; EdgesTest compares the quotations with the document.
 */
abstract class Edges {
    /** Stands for all that the document says before its first promise. */
    static final int TERMS = 0;

    static final Class<IndexOutOfBoundsException> INDEX = IndexOutOfBoundsException.class;
    static final Class<IllegalArgumentException> ARGUMENT = IllegalArgumentException.class;
    static final Class<UnsupportedOperationException> UNSUPPORTED =
            UnsupportedOperationException.class;
    static final Class<IllegalStateException> STATE = IllegalStateException.class;
    static final Class<NoSuchElementException> ELEMENT = NoSuchElementException.class;
    static final Class<ArithmeticException> ARITHMETIC = ArithmeticException.class;

    static final String CHANGES_NOTHING = "A method that throws an exception changes nothing.";
    static final String FIRST_DOCUMENTED =
            "If several exceptions apply, the one that is documented first is thrown.";
    static final String NO_NODE = "Throws `IndexOutOfBoundsException` if there is no such node";
    static final String NO_TAP = "Throws `UnsupportedOperationException` if it is not a tap";
    static final String NO_TANK = "Throws `IndexOutOfBoundsException` if there is no such tank";
    static final String NO_BATCH = "Throws `IndexOutOfBoundsException` if there is no such batch";
    static final String NO_RANK = "Throws `NoSuchElementException` if there is no such rank";
    static final String RANK = "`rank`: the rank, from 0";

    /** A sentence of the document, and the number of the promise that it is of. */
    record Quotation(int promise, String sentence) {
        @Override
        public String toString() {
            return (promise == TERMS ? "terms" : "promise " + promise) + ", \"" + sentence + "\"";
        }
    }

    /** What tests have quoted so far. */
    static final Set<Quotation> QUOTED = new LinkedHashSet<>();

    /** Runs a test that must hold if the sentence does, and must compare at least one answer. */
    static void holds(int promise, String sentence, Runnable test) {
        Quotation quotation = new Quotation(promise, sentence);
        QUOTED.add(quotation);
        Check.at(quotation + ": ");
        int before = Check.compared();
        try {
            test.run();
        } catch (RuntimeException e) {
            Check.due("the test", e.toString(), "no exception");
        }
        if (Check.compared() == before) {
            Check.due("the test", "nothing compared", "some answer");
        }
        Check.at("");
    }

    static void due(String what, Object got, Object due) {
        Check.due(what, got, due);
    }

    /**
     * The call must throw exactly this class, and leave the object as it was: in all that can be
     * told of it, it must stay the like of a twin that was made in the same way.
     */
    static void refused(String what, Class<? extends RuntimeException> due,
            Supplier<SapNetwork> state, Consumer<SapNetwork> call) {
        SapNetwork touched = state.get();
        Check.thrown(what, due, () -> call.accept(touched));
        alike(what, touched, state.get());
    }

    static void alike(String what, SapNetwork touched, SapNetwork twin) {
        due(what + " changes no reading", Readings.of(touched), Readings.of(twin));
        due(what + " changes nothing", Readings.ofNextCalls(touched), Readings.ofNextCalls(twin));
    }

    /** Numbers beyond a range: just beyond, far beyond, and such as a narrow type wraps into it. */
    static int[] outside(int least, int most) {
        return IntStream.of(
                        least - 1, most + 1, -most - 1, least + 256, least + 65536,
                        Integer.MIN_VALUE, Integer.MIN_VALUE + least, Integer.MAX_VALUE)
                .filter(value -> value < least || value > most)
                .distinct()
                .toArray();
    }
}
