/** Counts the answers that are not the ones that are due; a test that had one ends with exit code 1. */
final class Due {
    interface Call {
        long answer();
    }

    private static int checks = 0;
    private static int wrong = 0;

    private Due() {
    }

    static void same(String call, long got, long due) {
        check(call + " answered " + got + ", due is " + due, got == due);
    }

    static void sameShare(String call, double got, double due) {
        check(call + " answered " + got + ", due is " + due, Double.compare(got, due) == 0);
    }

    static void told(String call, String got, String due) {
        check(call + " answered " + got + ", due is " + due, got.equals(due));
    }

    static void holds(String claim, boolean holds) {
        check("it does not hold that " + claim, holds);
    }

    static void outOfBounds(String call, FloodWardens wardens, Call made) {
        refused(call, IndexOutOfBoundsException.class, wardens, made);
    }

    static void badArgument(String call, FloodWardens wardens, Call made) {
        refused(call, IllegalArgumentException.class, wardens, made);
    }

    static void badState(String call, FloodWardens wardens, Call made) {
        refused(call, IllegalStateException.class, wardens, made);
    }

    /** The call must throw just this exception, and change nothing that can be asked for. */
    private static void refused(String call, Class<?> due, FloodWardens wardens, Call made) {
        long before = wardens.digest();
        String got;
        try {
            got = "answered " + made.answer();
        } catch (RuntimeException thrown) {
            got = thrown.getClass().getName();
        }
        check(call + ": " + got + ", due is " + due.getName(), got.equals(due.getName()));
        check(call + " changed something though it was refused", wardens.digest() == before);
    }

    private static void check(String fault, boolean holds) {
        checks++;
        if (!holds) {
            wrong++;
            System.out.println(fault);
        }
    }

    static void end() {
        System.out.println(checks + " checks, " + wrong + " wrong");
        if (wrong != 0) {
            System.exit(1);
        }
    }
}
