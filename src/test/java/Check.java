import java.util.Objects;

/** Compares answers with the due ones, tells each wrong one, and ends a test with their count. */
final class Check {
    private static int compared = 0;
    private static int wrong = 0;

    interface Call {
        void run();
    }

    private Check() {}

    static void due(String what, Object got, Object due) {
        compared++;
        if (!Objects.equals(got, due)) {
            wrong++;
            System.out.println(what + ": answered " + got + ", due is " + due);
        }
    }

    /** The call must throw exactly this class, and leave every reading of the object as it was. */
    static void refused(String what, SapNetwork x, Class<? extends Exception> due, Call call) {
        String before = Readings.of(x);
        Class<?> thrown = null;
        try {
            call.run();
        } catch (RuntimeException e) {
            thrown = e.getClass();
        }
        due(what + " throws", thrown, due);
        due(what + " changes nothing", Readings.of(x), before);
    }

    static void end(String test) {
        System.out.println(test + ": " + compared + " answers, " + wrong + " of them wrong");
        if (wrong > 0 || compared == 0) {
            System.exit(1);
        }
    }
}
