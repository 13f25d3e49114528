/** Counts the answers that are not the ones that are due, and ends the test by them. */
final class Check {
    /** A call of the office that answers nothing. */
    interface Act {
        void go();
    }

    private static int wrong = 0;

    private Check() {
    }

    static void due(String call, long want, long got) {
        if (got != want) {
            wrong++;
            System.out.println(call + " answered " + got + ", due is " + want);
        }
    }

    static void due(String call, boolean want, boolean got) {
        due(call, want ? 1 : 0, got ? 1 : 0);
    }

    /** The class must be the very one that the document names, not one below it. */
    static void dueThrow(String call, Class<? extends RuntimeException> want, Act act) {
        try {
            act.go();
        } catch (RuntimeException e) {
            if (e.getClass() != want) {
                wrong++;
                System.out.println(call + " threw " + e + ", due is " + want.getName());
            }
            return;
        }
        wrong++;
        System.out.println(call + " threw nothing, due is " + want.getName());
    }

    static void dueIllegalArgument(String call, Act act) {
        dueThrow(call, IllegalArgumentException.class, act);
    }

    static void dueIllegalState(String call, Act act) {
        dueThrow(call, IllegalStateException.class, act);
    }

    static void dueOutOfBounds(String call, Act act) {
        dueThrow(call, IndexOutOfBoundsException.class, act);
    }

    static void end() {
        if (wrong > 0) {
            System.out.println(wrong + " wrong");
            System.exit(1);
        }
    }
}
