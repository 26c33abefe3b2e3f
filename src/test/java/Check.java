import java.util.Objects;

/** Compares answers with the due ones, tells each wrong one, and ends a test with their count. */
final class Check {
    private static int compared = 0;
    private static int wrong = 0;
    private static String place = "";

    interface Call {
        void run();
    }

    private Check() {}

    /** What the answers compared from here on belong to: it is told with each wrong one. */
    static void at(String newPlace) {
        place = newPlace;
    }

    static int compared() {
        return compared;
    }

    static void due(String what, Object got, Object due) {
        compared++;
        if (!Objects.equals(got, due)) {
            wrong++;
            System.out.println(place + what + ": answered " + got + ", due is " + due);
        }
    }

    /** The call must throw exactly this class. */
    static void thrown(String what, Class<? extends RuntimeException> due, Call call) {
        Class<?> thrown = null;
        try {
            call.run();
        } catch (RuntimeException e) {
            thrown = e.getClass();
        }
        due(what + " throws", thrown, due);
    }

    static void end(String test) {
        System.out.println(test + ": " + compared + " answers, " + wrong + " of them wrong");
        if (wrong > 0 || compared == 0) {
            System.exit(1);
        }
    }
}
