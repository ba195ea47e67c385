import java.util.function.Supplier;

/** Compares answers with those that are due, and ends a test with exit code 1 if one differs. */
final class Due {
    private static int checked = 0;
    private static int wrong = 0;

    private Due() {
    }

    static void due(String call, long got, long want) {
        due(() -> call, got, want);
    }

    /** For tests of very many calls: the text is made only where an answer is wrong. */
    static void due(Supplier<String> call, long got, long want) {
        checked++;
        if (got != want) {
            wrong++;
            System.out.println(call.get() + " answered " + got + ", due is " + want);
        }
    }

    static void due(String call, boolean got, boolean want) {
        due(call, got ? 1L : 0L, want ? 1L : 0L);
    }

    /** No digit is due: the exception that the document names is, and no class below it. */
    static void dueNoDigit(DepositCodes x, int k) {
        boolean thrown = false;
        try {
            x.digit(k);
        } catch (RuntimeException e) {
            thrown = e.getClass() == ArrayIndexOutOfBoundsException.class;
        }
        due("digit(" + k + ") throws", thrown, true);
    }

    static void end(String test) {
        System.out.println(test + ": " + checked + " answers looked at, " + wrong + " wrong");
        if (wrong != 0) {
            System.exit(1);
        }
    }
}
