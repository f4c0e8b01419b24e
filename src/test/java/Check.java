/** Counts the answers that are not the ones that are due, and prints them. */
final class Check {
    private static final Class<IllegalArgumentException> ARGUMENT = IllegalArgumentException.class;
    private static final Class<IllegalStateException> STATE = IllegalStateException.class;
    private static final Class<IndexOutOfBoundsException> INDEX = IndexOutOfBoundsException.class;

    private static int wrong = 0;

    private Check() {
    }

    static void due(String call, long got, long want) {
        if (got != want) {
            complain(call + " answered " + got + ", due is " + want);
        }
    }

    static void due(String call, float got, float want) {
        if (Float.floatToIntBits(got) != Float.floatToIntBits(want)) {
            complain(call + " answered " + got + ", due is " + want);
        }
    }

    static void badArgument(CoilPrices machine, String call, Runnable code) {
        thrown(machine, call, code, ARGUMENT);
    }

    static void badState(CoilPrices machine, String call, Runnable code) {
        thrown(machine, call, code, STATE);
    }

    static void badIndex(CoilPrices machine, String call, Runnable code) {
        thrown(machine, call, code, INDEX);
    }

    static void complain(String text) {
        wrong++;
        System.out.println(text);
    }

    /** How many answers were wrong so far. */
    static int wrong() {
        return wrong;
    }

    static void finish() {
        if (wrong != 0) {
            System.out.println(wrong + " wrong");
            System.exit(1);
        }
    }

    /** The class must be the very one, and the call must change nothing. */
    private static void thrown(CoilPrices machine, String call, Runnable code, Class<?> due) {
        long before = machine.digest();
        String got = "nothing";
        try {
            code.run();
        } catch (RuntimeException e) {
            got = e.getClass().getName();
        }
        if (!got.equals(due.getName())) {
            complain(call + " threw " + got + ", due is " + due.getName());
        }
        due(call + " changed the digest, which", machine.digest(), before);
    }
}
