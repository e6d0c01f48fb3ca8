import java.util.function.IntSupplier;

/** Counts checks and prints each that fails. */
final class Checks {
    private int passed;
    private int failed;

    /** A call's answer as a text: its number, or throws.Name; what the machine throws by itself is told apart. */
    static String answerOf(IntSupplier call) {
        try {
            return Integer.toString(call.getAsInt());
        } catch (RuntimeException e) {
            String madeByMachine = "/ by zero".equals(e.getMessage()) ? " of the machine" : "";
            return "throws." + e.getClass().getSimpleName() + madeByMachine;
        }
    }

    void due(String what, int want, IntSupplier call) {
        same(what, Integer.toString(want), answerOf(call));
    }

    void illegalArgument(String what, IntSupplier call) {
        same(what, "throws.IllegalArgumentException", answerOf(call));
    }

    void illegalState(String what, IntSupplier call) {
        same(what, "throws.IllegalStateException", answerOf(call));
    }

    void arithmetic(String what, IntSupplier call) {
        same(what, "throws.ArithmeticException", answerOf(call));
    }

    void same(String what, String want, String got) {
        if (want.equals(got)) {
            passed++;
        } else {
            failed++;
            System.out.println(what + " answered " + got + ", due is " + want);
        }
    }

    void finish() {
        System.out.println(passed + " checks are as due, " + failed + " are not");
        if (failed != 0 || passed == 0) {
            System.exit(1);
        }
    }
}
