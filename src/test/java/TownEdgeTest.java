/** The edges of promises 1 to 4, and of what the Terms say of the town and of the river's table. */
public final class TownEdgeTest {
    private static final int MIN = Integer.MIN_VALUE;
    private static final int MAX = Integer.MAX_VALUE;
    private static final int[][] CORNERS = {{0, 0}, {9, 0}, {0, 7}, {9, 7}};

    public static void main(String[] args) {
        newTownHasNothing();
        newTownIsAtTheHour0();
        newTownHasATableOf0();
        townsOfTestsAreWhatTheySay();
        groundInTheCorners();
        groundOfEachNumber();
        groundUnderWaterAndSandbags();
        groundOutsideTheTown();
        groundTooLowOrTooHigh();
        sandbagsInTheCorners();
        sandbagsOfEachNumber();
        sandbagsOutsideTheTown();
        sandbagsTooFewOrTooMany();
        sandbagsUpTo40();
        sandbagsOver40();
        sandbagsAre40WhereverTheyLie();
        tableOfEachHourAndHeight();
        tableWithoutSuchAnHour();
        tableTooLowOrTooHigh();
        tableByTheRemainderOf12();
        tableFarAhead();
        tableOfTheHourThatIs();
        Due.end();
    }

    // ---- Promise 1

    private static void newTownHasNothing() {
        FloodWardens w = new FloodWardens();
        for (int what = 0; what < 10; what++) {
            Due.same("new: count(" + what + ")", w.count(what), 0);
        }
        Due.told("new: no pump", Call.PUMP.on(w, 0, 0), "IndexOutOfBoundsException");
        Due.told("new: no board", Call.GAUGE.on(w, 0, 0), "IndexOutOfBoundsException");
        Due.told("new: no refuge", Call.REFUGE.on(w, 0, 0), "IndexOutOfBoundsException");
        Due.told("new: no household", Call.HOUSEHOLD.on(w, 0, 0), "IndexOutOfBoundsException");
        Due.told("new: no caller", Call.CALLER.on(w, 0, 0), "IndexOutOfBoundsException");
        Due.sameShare("new: share()", w.share(), 0.0);
        Due.same("new: advise(6)", w.advise(6), -1);
        for (int what = 0; what < 4; what++) {
            Due.same("new: foresee(36, " + what + ")", w.foresee(36, what), 0);
        }
        for (int[] c : CORNERS) {
            Due.same("new: ground", w.cell(c[0], c[1], 0), 2);
            Due.same("new: sandbags", w.cell(c[0], c[1], 1), 0);
            Due.same("new: water", w.cell(c[0], c[1], 2), 0);
            Due.same("new: level", w.cell(c[0], c[1], 3), 2);
        }
    }

    private static void newTownIsAtTheHour0() {
        FloodWardens w = new FloodWardens();
        w.setRiver(0, 2);
        Due.same("the hour", w.count(0), 0);
        w.pass(1);
        Due.same("the first hour is the one with the number 0", w.cell(0, 1, 2), 1);
        Due.same("the hour", w.count(0), 1);
    }

    private static void newTownHasATableOf0() {
        FloodWardens w = new FloodWardens();
        for (int hour = 0; hour < 12; hour++) {
            Due.same("setRiver(" + hour + ", 0)", w.setRiver(hour, 0), 0);
        }
    }

    /** The other tests of edges begin with these towns, so that it counts what is in them. */
    private static void townsOfTestsAreWhatTheySay() {
        FloodWardens full = Towns.FULL.make();
        Due.same("40 sandbags", full.count(8), 40);
        Due.same("10 households", full.count(1), 10);
        Due.same("the last pump", full.pump(4, 2), 5);
        Due.same("the last board", full.gauge(3, 2), 12);
        Due.same("the last refuge", full.refuge(3, 2), 6);
        Due.same("the last caller", full.caller(2, 1), 0);
        Due.same("some are lost", full.household(1, 3), 3);
        Due.same("some are safe", full.household(0, 3), 2);
        FloodWardens livedIn = Towns.LIVED_IN.make();
        int[] states = {2, 3, 0, 1};
        for (int household = 0; household < 4; household++) {
            Due.same("state of household " + household, livedIn.household(household, 3), states[household]);
        }
        Due.same("a board rings", livedIn.gauge(0, 4), 1);
        Due.same("a board does not", livedIn.gauge(1, 4), 0);
    }

    // ---- Promise 2

    private static void groundInTheCorners() {
        FloodWardens w = new FloodWardens();
        for (int number = 0; number < 4; number++) {
            int x = CORNERS[number][0];
            int y = CORNERS[number][1];
            Due.same("ground before", w.setGround(x, y, number + 3), 2);
        }
        for (int number = 0; number < 4; number++) {
            Due.same("ground of corner " + number, w.cell(CORNERS[number][0], CORNERS[number][1], 0), number + 3);
        }
        Due.same("beside a corner", w.cell(1, 0, 0), 2);
        Due.same("below a corner", w.cell(0, 1, 0), 2);
    }

    private static void groundOfEachNumber() {
        FloodWardens w = new FloodWardens();
        int before = 2;
        for (int ground = 0; ground <= 9; ground++) {
            Due.same("ground before " + ground, w.setGround(4, 5, ground), before);
            Due.same("ground " + ground, w.cell(4, 5, 0), ground);
            before = ground;
        }
        Due.same("the same again", w.setGround(4, 5, 9), 9);
        Due.same("from 9 to 0", w.setGround(4, 5, 0), 9);
        Due.same("0", w.cell(4, 5, 0), 0);
    }

    private static void groundUnderWaterAndSandbags() {
        FloodWardens w = Lake.inRow(3, 5, 4, 3, 2, 1, 0, 0, 0, 0, 5);
        w.lay(9, 3, 5);
        Due.same("ground before", w.setGround(9, 3, 9), 0);
        Due.same("water stays", w.cell(9, 3, 2), 5);
        Due.same("sandbags stay", w.cell(9, 3, 1), 5);
        Due.same("all three added", w.cell(9, 3, 3), 19);
    }

    private static void groundOutsideTheTown() {
        Seen.outOfBoundsOutsideTheTown(Call.SET_GROUND, 9);
        Seen.outOfBoundsOutsideTheTown(Call.SET_GROUND, 10);
        Seen.outOfBoundsOutsideTheTown(Call.SET_GROUND, -1);
    }

    private static void groundTooLowOrTooHigh() {
        for (int[] c : CORNERS) {
            Seen.badArgument(Call.SET_GROUND, c[0], c[1], -1);
            Seen.badArgument(Call.SET_GROUND, c[0], c[1], 10);
        }
        Seen.badArgument(Call.SET_GROUND, 5, 5, MIN);
        Seen.badArgument(Call.SET_GROUND, 5, 5, MAX);
    }

    // ---- Promise 3

    private static void sandbagsInTheCorners() {
        FloodWardens w = new FloodWardens();
        for (int number = 0; number < 4; number++) {
            Due.same("in the town", w.lay(CORNERS[number][0], CORNERS[number][1], 5), 5 * number + 5);
        }
        for (int[] c : CORNERS) {
            Due.same("sandbags of a corner", w.cell(c[0], c[1], 1), 5);
            Due.same("level of a corner", w.cell(c[0], c[1], 3), 7);
        }
        Due.same("beside a corner", w.cell(8, 7, 1), 0);
        Due.same("above a corner", w.cell(9, 6, 1), 0);
    }

    private static void sandbagsOfEachNumber() {
        FloodWardens w = new FloodWardens();
        w.lay(0, 7, 3);
        for (int bags = 0; bags <= 5; bags++) {
            Due.same("lay(4, 5, " + bags + ")", w.lay(4, 5, bags), 3 + bags);
            Due.same("sandbags", w.cell(4, 5, 1), bags);
        }
        Due.same("the same again", w.lay(4, 5, 5), 8);
        Due.same("all away", w.lay(4, 5, 0), 3);
        Due.same("none away from none", w.lay(4, 5, 0), 3);
        Due.same("the last away", w.lay(0, 7, 0), 0);
    }

    private static void sandbagsOutsideTheTown() {
        Seen.outOfBoundsOutsideTheTown(Call.LAY, 0);
        Seen.outOfBoundsOutsideTheTown(Call.LAY, 5);
        Seen.outOfBoundsOutsideTheTown(Call.LAY, 6);
        Seen.outOfBoundsOutsideTheTown(Call.LAY, -1);
    }

    private static void sandbagsTooFewOrTooMany() {
        for (int[] c : CORNERS) {
            Seen.badArgument(Call.LAY, c[0], c[1], -1);
            Seen.badArgument(Call.LAY, c[0], c[1], 6);
        }
        Seen.badArgument(Call.LAY, 5, 5, 41);
        Seen.badArgument(Call.LAY, 5, 5, MIN);
        Seen.badArgument(Call.LAY, 5, 5, MAX);
    }

    /** 40 sandbags, 5 in each cell of the row y but two. */
    private static FloodWardens with40(int y) {
        FloodWardens w = new FloodWardens();
        for (int x = 0; x < 8; x++) {
            Due.same("lay(" + x + ", " + y + ", 5)", w.lay(x, y, 5), 5 * x + 5);
        }
        return w;
    }

    private static void sandbagsUpTo40() {
        FloodWardens w = with40(7);
        Due.same("40", w.count(8), 40);
        Due.same("5 again are no more", w.lay(0, 7, 5), 40);
        Due.same("none in another cell", w.lay(9, 7, 0), 40);
        Due.same("1 less", w.lay(7, 7, 4), 39);
        Due.same("1 elsewhere", w.lay(9, 7, 1), 40);
        Due.same("all of a cell away", w.lay(0, 7, 0), 35);
        Due.same("5 at once to 40", w.lay(8, 7, 5), 40);
        Due.same("5 away again", w.lay(8, 7, 0), 35);
        Due.same("and where they were", w.lay(0, 7, 5), 40);
    }

    private static void sandbagsOver40() {
        Seen.badStateIn(Towns.FULL, Call.LAY, 0, 0, 1);
        Seen.badStateIn(Towns.FULL, Call.LAY, 9, 6, 5);
        FloodWardens w = with40(7);
        w.lay(0, 7, 1);
        Due.same("36", w.count(8), 36);
        Due.badState("5 more than 36", w, () -> w.lay(9, 7, 5));
        Due.same("4 more than 36", w.lay(9, 7, 4), 40);
        Due.badState("1 more in a cell of 1", w, () -> w.lay(0, 7, 2));
        Due.badState("1 more in a cell of 4", w, () -> w.lay(9, 7, 5));
        Due.badState("1 more in a cell of none", w, () -> w.lay(8, 7, 1));
        Due.same("1 less", w.lay(1, 7, 4), 39);
        Due.badState("2 more than 39", w, () -> w.lay(0, 7, 3));
        Due.same("1 more than 39", w.lay(0, 7, 2), 40);
    }

    private static void sandbagsAre40WhereverTheyLie() {
        for (int y = 0; y < 8; y++) {
            FloodWardens w = with40(y);
            int other = 7 - y;
            Due.badState("41, with 40 in the row " + y, w, () -> w.lay(9, other, 1));
            Due.same("40, in the row " + y, w.lay(9, other, 0), 40);
        }
    }

    // ---- Promise 4, and the table

    private static void tableOfEachHourAndHeight() {
        FloodWardens w = new FloodWardens();
        for (int hour = 0; hour < 12; hour++) {
            int before = 0;
            for (int high = 0; high <= 12; high++) {
                Due.same("setRiver(" + hour + ", " + high + ")", w.setRiver(hour, high), before);
                before = high;
            }
        }
        for (int hour = 0; hour < 12; hour++) {
            Due.same("setRiver(" + hour + ", 5) is of this hour alone", w.setRiver(hour, 5), 12);
        }
    }

    private static void tableWithoutSuchAnHour() {
        for (int high : new int[] {0, 12, 13, -1}) {
            Seen.outOfBounds(Call.SET_RIVER, -1, high);
            Seen.outOfBounds(Call.SET_RIVER, 12, high);
            Seen.outOfBounds(Call.SET_RIVER, MIN, high);
            Seen.outOfBounds(Call.SET_RIVER, MAX, high);
        }
    }

    private static void tableTooLowOrTooHigh() {
        for (int hour : new int[] {0, 2, 11}) {
            Seen.badArgument(Call.SET_RIVER, hour, -1);
            Seen.badArgument(Call.SET_RIVER, hour, 13);
            Seen.badArgument(Call.SET_RIVER, hour, MIN);
            Seen.badArgument(Call.SET_RIVER, hour, MAX);
        }
    }

    /** A river between walls of 13, from which nothing flows: 12 high in the hour 0, 11 in the hour 1, and so on. */
    private static FloodWardens betweenWalls() {
        FloodWardens w = new FloodWardens();
        for (int hour = 0; hour < 12; hour++) {
            w.setRiver(hour, 12 - hour);
        }
        for (int x = 0; x < 10; x++) {
            w.setGround(x, 0, 0);
            w.setGround(x, 1, 9);
            w.lay(x, 1, 4);
        }
        return w;
    }

    private static void tableByTheRemainderOf12() {
        riverInTheHours(0, 24);
        riverInTheHours(24, 48);
    }

    private static void riverInTheHours(int first, int last) {
        FloodWardens w = betweenWalls();
        if (first > 0) {
            w.pass(first);
        }
        for (int hour = first; hour <= last; hour++) {
            Due.same("the hour", w.count(0), hour);
            w.pass(1);
            for (int x = 0; x < 10; x++) {
                Due.same("how high the river stands in the hour " + hour, w.cell(x, 0, 2), 12 - hour % 12);
            }
        }
        Due.same("nothing is in the streets", w.count(7), 0);
    }

    private static void tableFarAhead() {
        FloodWardens w = betweenWalls();
        for (int times = 0; times < 450; times++) {
            w.pass(36);
        }
        Due.same("the hour", w.count(0), 16200);
        w.pass(1);
        Due.same("16200 is 12 * 1350", w.cell(0, 0, 2), 12);
        w.pass(1);
        Due.same("1 remains", w.cell(0, 0, 2), 11);
        w.pass(10);
        Due.same("11 remain", w.cell(0, 0, 2), 1);
        w.pass(1);
        Due.same("0 again", w.cell(0, 0, 2), 12);
    }

    private static void tableOfTheHourThatIs() {
        FloodWardens w = betweenWalls();
        w.pass(13);
        w.setRiver(0, 7);
        w.setRiver(1, 6);
        w.pass(1);
        Due.same("the hour 13 has the number 1", w.cell(4, 0, 2), 6);
        w.pass(11);
        Due.same("the hour 24 has the number 0", w.cell(4, 0, 2), 7);
    }
}
