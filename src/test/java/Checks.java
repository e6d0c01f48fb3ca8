import java.util.function.IntSupplier;
import java.util.function.IntUnaryOperator;

/** Counts checks and prints each that fails. */
final class Checks {
    private int passed;
    private int failed;
    private int sentences;
    private int checksBefore;
    private String sentence = "";

    /** A call's answer as a text: its number, or throws.Name; what the machine throws by itself is told apart. */
    static String answerOf(IntSupplier call) {
        try {
            return Integer.toString(call.getAsInt());
        } catch (RuntimeException e) {
            String madeByMachine = "/ by zero".equals(e.getMessage()) ? " of the machine" : "";
            return "throws." + e.getClass().getSimpleName() + madeByMachine;
        }
    }

    /** The checks from here on are those of one sentence of the document; one without a check fails. */
    void sentence(String words) {
        endSentence();
        sentence = words;
        sentences++;
        checksBefore = passed + failed;
    }

    private void endSentence() {
        if (sentences > 0 && passed + failed == checksBefore) {
            same("checks", "some", "none");
        }
    }

    void due(String what, int want, IntSupplier call) {
        same(what, Integer.toString(want), answerOf(call));
    }

    void illegalArgument(String what, IntSupplier call) {
        same(what, "throws.IllegalArgumentException", answerOf(call));
    }

    /** Each of these numbers is refused. */
    void refuses(String what, IntUnaryOperator call, int... wrong) {
        for (int number : wrong) {
            illegalArgument(what + " " + number, () -> call.applyAsInt(number));
        }
    }

    void illegalState(String what, IntSupplier call) {
        same(what, "throws.IllegalStateException", answerOf(call));
    }

    void arithmetic(String what, IntSupplier call) {
        same(what, "throws.ArithmeticException", answerOf(call));
    }

    void same(String what, String want, String got) {
        if (want.equals(got)) {
            passed++;
        } else {
            failed++;
            String of = sentence.isEmpty() ? "" : "'" + sentence + "': ";
            System.out.println(of + what + " answered " + got + ", due is " + want);
        }
    }

    void finish() {
        endSentence();
        String of = sentences == 0 ? "" : " of " + sentences + " sentences";
        System.out.println(passed + " checks" + of + " are as due, " + failed + " are not");
        if (failed != 0 || passed == 0) {
            System.exit(1);
        }
    }
}
