/**
 * What all the other calls answer before and behind a call that must change nothing. The document promises
 * 512 calls of an object, so that each view is taken of a town of its own.
 */
final class Seen {
    private interface View {
        String of(FloodWardens w);
    }

    /** Views that change nothing, so that one object can be seen before and behind the call. */
    private static final View[] VIEWS = {
        w -> rows(w, 0), w -> rows(w, 2), w -> rows(w, 4), w -> rows(w, 6), Seen::numbered, Seen::ahead};
    /** Views that change the town, so that it is compared with another one, on which the call was not made. */
    private static final View[] LAST_VIEWS = {Seen::table, Seen::hoursToCome, Seen::whatElseCanCome};

    /** Cells that the town does not have, also such as would be one of it if rows were told on end. */
    private static final int[][] NO_CELLS = {{-1, 0}, {10, 0}, {0, -1}, {0, 8}, {-1, 7}, {10, 7}, {9, -1}, {9, 8},
        {-1, 1}, {10, 6}, {-1, -1}, {10, 8}, {Integer.MIN_VALUE, 0}, {Integer.MAX_VALUE, 0}, {0, Integer.MIN_VALUE},
        {0, Integer.MAX_VALUE}, {6, 429496730}, {-4, 429496730}};

    private Seen() {
    }

    // ---- what a call must answer, and leave as it is

    static void outOfBounds(Call call, int... arguments) {
        for (Towns town : Towns.values()) {
            changesNothing(town, "IndexOutOfBoundsException", call, arguments);
        }
    }

    static void badArgument(Call call, int... arguments) {
        for (Towns town : Towns.values()) {
            changesNothing(town, "IllegalArgumentException", call, arguments);
        }
    }

    static void outOfBoundsIn(Towns town, Call call, int... arguments) {
        changesNothing(town, "IndexOutOfBoundsException", call, arguments);
    }

    static void badArgumentIn(Towns town, Call call, int... arguments) {
        changesNothing(town, "IllegalArgumentException", call, arguments);
    }

    static void badStateIn(Towns town, Call call, int... arguments) {
        changesNothing(town, "IllegalStateException", call, arguments);
    }

    /** The call names a cell by its first two arguments; the others are given. */
    static void outOfBoundsOutsideTheTown(Call call, int... others) {
        for (int[] cell : NO_CELLS) {
            int[] arguments = new int[2 + others.length];
            arguments[0] = cell[0];
            arguments[1] = cell[1];
            System.arraycopy(others, 0, arguments, 2, others.length);
            outOfBounds(call, arguments);
        }
    }

    /** For a call that only looks. */
    static void onlyLooks(Towns town, Call call, int... arguments) {
        changesNothing(town, call.on(town.make(), arguments), call, arguments);
    }

    static void changesNothing(Towns town, String due, Call call, int... arguments) {
        String told = town + ": " + call.told(arguments);
        for (View view : VIEWS) {
            FloodWardens w = town.make();
            String before = view.of(w);
            Due.told(told, call.on(w, arguments), due);
            Due.told(told + " changes nothing", view.of(w), before);
        }
        for (View view : LAST_VIEWS) {
            FloodWardens w = town.make();
            call.on(w, arguments);
            Due.told(told + " changes nothing that comes", view.of(w), view.of(town.make()));
        }
    }

    // ---- the views

    private static String rows(FloodWardens w, int y) {
        StringBuilder seen = new StringBuilder();
        for (int place = 10 * y; place < 10 * y + 20; place++) {
            for (int what = 0; what < 6; what++) {
                see(seen, w, Call.CELL, place % 10, place / 10, what);
            }
        }
        return seen.toString();
    }

    private static String numbered(FloodWardens w) {
        StringBuilder seen = new StringBuilder();
        for (int what = 0; what < 10; what++) {
            see(seen, w, Call.COUNT, what);
        }
        for (int number = 0; number < 11; number++) {
            for (int what = 0; what < 5; what++) {
                see(seen, w, Call.HOUSEHOLD, number, what);
            }
        }
        for (int number = 0; number < 6; number++) {
            for (int what = 2; what < 6; what++) {
                see(seen, w, Call.PUMP, number, what);
                see(seen, w, Call.GAUGE, number, what);
                see(seen, w, Call.REFUGE, number, what);
                see(seen, w, Call.CALLER, number, what - 2);
            }
        }
        return seen.append(w.share()).append(' ').append(w.digest()).toString();
    }

    private static String ahead(FloodWardens w) {
        StringBuilder seen = new StringBuilder();
        for (int what = 0; what < 4; what++) {
            see(seen, w, Call.FORESEE, 1, what);
            see(seen, w, Call.FORESEE, 7, what);
            see(seen, w, Call.RINGS, what);
        }
        see(seen, w, Call.ADVISE, 1);
        see(seen, w, Call.ADVISE, 4);
        return seen.toString();
    }

    private static String table(FloodWardens w) {
        StringBuilder seen = new StringBuilder();
        for (int hour = 0; hour < 12; hour++) {
            see(seen, w, Call.SET_RIVER, hour, 0);
        }
        return seen.toString();
    }

    private static String hoursToCome(FloodWardens w) {
        StringBuilder seen = new StringBuilder();
        for (int hours = 0; hours < 14; hours++) {
            see(seen, w, Call.PASS, 1);
            seen.append(w.digest()).append(' ');
        }
        return seen.toString();
    }

    private static String whatElseCanCome(FloodWardens w) {
        StringBuilder seen = new StringBuilder();
        for (int x = 0; x < 10; x++) {
            see(seen, w, Call.ADD_PUMP, x, 3, 1, 1);
            see(seen, w, Call.ADD_GAUGE, x, 3, 1);
            see(seen, w, Call.ADD_REFUGE, x, 3, 1);
            see(seen, w, Call.SETTLE, x, 3, 1);
            see(seen, w, Call.ADD_CALLER, x, 3);
            see(seen, w, Call.LAY, x, 3, 5);
        }
        for (int pump = 0; pump < 5; pump++) {
            see(seen, w, Call.RUN, pump);
        }
        return seen.toString();
    }

    private static void see(StringBuilder seen, FloodWardens w, Call call, int... arguments) {
        seen.append(call.on(w, arguments)).append(' ');
    }
}
