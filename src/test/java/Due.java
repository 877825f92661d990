import java.util.function.IntSupplier;
import java.util.function.IntUnaryOperator;

/** Counts the answers of one test that are not as due, and ends the program with 1 if there was one. */
final class Due {
    private final String test;
    private int checks;
    private int wrong;

    Due(String test) {
        this.test = test;
    }

    /** A call must answer this number. */
    void answer(String call, int want, IntSupplier got) {
        text(call, "" + want, outcome(got));
    }

    /** A call must answer for each number from 0 to count - 1 what is wanted for it. */
    void each(String call, int count, IntUnaryOperator want, IntUnaryOperator got) {
        for (int k = 0; k < count; k++) {
            int which = k;
            answer(call + ", " + which, want.applyAsInt(which), () -> got.applyAsInt(which));
        }
    }

    /** A call must throw exactly this exception, and x must be afterwards as it was before. */
    void refused(String call, SpoonCards x, Class<? extends RuntimeException> want, IntSupplier got) {
        String before = Look.at(x);
        text(call, want.getSimpleName(), outcome(got));
        text(call + " changes nothing", before, Look.at(x));
    }

    void noPlace(String call, SpoonCards x, IntSupplier got) {
        refused(call, x, IndexOutOfBoundsException.class, got);
    }

    void badArgument(String call, SpoonCards x, IntSupplier got) {
        refused(call, x, IllegalArgumentException.class, got);
    }

    void badState(String call, SpoonCards x, IntSupplier got) {
        refused(call, x, IllegalStateException.class, got);
    }

    void text(String call, String want, String got) {
        checks++;
        if (!want.equals(got)) {
            wrong++;
            System.out.println(test + ": " + call + " answered " + got + ", due is " + want);
        }
    }

    void end() {
        System.out.println(test + ": " + checks + " checks, " + wrong + " wrong");
        System.exit(wrong == 0 && checks > 0 ? 0 : 1);
    }

    /** What a call answers, or the name of what it throws; by getClass, as the machine's exceptions are others. */
    static String outcome(IntSupplier call) {
        try {
            return "" + call.getAsInt();
        } catch (RuntimeException thrown) {
            return thrown.getClass().getSimpleName();
        }
    }
}
