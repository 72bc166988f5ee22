import java.util.Objects;

/** Compares answers with those that are due, prints each that differs, and ends with 1 then. */
final class Check {
    private static int wrong = 0;

    private Check() {
    }

    static int wrong() {
        return wrong;
    }

    static void due(String what, Object got, Object want) {
        if (!Objects.equals(got, want)) {
            wrong++;
            System.out.println(what + " answered " + got + ", due is " + want);
        }
    }

    static void refused(String what, Class<? extends RuntimeException> due, Runnable call) {
        try {
            call.run();
        } catch (RuntimeException e) {
            due(what + " throws", e.getClass().getName(), due.getName());
            return;
        }
        due(what + " throws", "nothing", due.getName());
    }

    static void end() {
        System.out.println(wrong == 0 ? "all answers are as due" : wrong + " answers are not as due");
        if (wrong != 0) {
            System.exit(1);
        }
    }
}
