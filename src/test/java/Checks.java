/** Counts the answers that are not as due, and prints them. */
final class Checks {
    interface Call {
        Object run();
    }

    private static int wrong = 0;

    private Checks() {
    }

    static void due(String what, Object got, Object want) {
        if (!want.equals(got)) {
            wrong++;
            System.out.println(what + " answered " + got + ", due is " + want);
        }
    }

    static void dueThrow(String what, Class<? extends RuntimeException> want, Call call) {
        try {
            due(what, call.run(), want.getSimpleName());
        } catch (RuntimeException e) {
            due(what, e.getClass(), want);
            dueThrownByCode(what, e);
        }
    }

    // Each exception that the machine itself throws has a message; those of the class have none.
    static void dueThrownByCode(String what, Throwable thrown) {
        if (thrown.getMessage() != null) {
            wrong++;
            System.out.println(what + ": the machine threw " + thrown);
        }
    }

    static void end(String test) {
        System.out.println(test + ": " + (wrong == 0 ? "all answers are as due" : wrong + " answers are not as due"));
        if (wrong != 0) {
            System.exit(1);
        }
    }

    static int wrong() {
        return wrong;
    }
}
