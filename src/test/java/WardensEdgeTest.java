/** The edges of promises 5 to 10, and of what the Terms say of how many there are of each kind, and where. */
public final class WardensEdgeTest {
    private static final int MIN = Integer.MIN_VALUE;
    private static final int MAX = Integer.MAX_VALUE;
    private static final int[][] CORNERS = {{0, 0}, {9, 0}, {0, 7}, {9, 7}};

    public static void main(String[] args) {
        pumpsInTheCorners();
        pumpsOfEachPowerAndFuel();
        pumpsOutsideTheTown();
        pumpsTooWeakOrTooStrong();
        pumpsWithTooMuchFuel();
        pumpsTwoInACell();
        pumpsUpTo5();
        pumpsRefusedForMoreThanOneReason();
        runWithoutPumps();
        runEachOf5();
        runOnlyPumpsThatAreThere();
        boardsInTheCorners();
        boardsOfEachMark();
        boardsRefused();
        boardsTwoInACell();
        boardsUpTo4();
        refugesInTheCorners();
        refugesOfEachRoom();
        refugesRefused();
        refugesTwoInACell();
        refugesUpTo4();
        householdsInTheCorners();
        householdsOfEachSize();
        householdsRefused();
        householdsAllInOneCell();
        householdsUpTo10();
        callersInTheCorners();
        callersAllInOneCell();
        callersRefused();
        callersUpTo3();
        numbersGoOnBehindARefusal();
        eachKindInOneCell();
        Due.end();
    }

    // ---- Promise 5

    private static void pumpsInTheCorners() {
        FloodWardens w = new FloodWardens();
        for (int number = 0; number < 4; number++) {
            int x = CORNERS[number][0];
            int y = CORNERS[number][1];
            Due.same("addPump", w.addPump(x, y, number + 1, number), number);
            Due.same("x", w.pump(number, 0), x);
            Due.same("y", w.pump(number, 1), y);
        }
    }

    private static void pumpsOfEachPowerAndFuel() {
        FloodWardens w = new FloodWardens();
        for (int power = 1; power <= 5; power++) {
            Due.same("addPump", w.addPump(power, 3, power, 30), power - 1);
            Due.same("power", w.pump(power - 1, 2), power);
            Due.same("it runs", w.pump(power - 1, 4), 1);
            Due.same("nothing is taken yet", w.pump(power - 1, 5), 0);
        }
        for (int fuel = 0; fuel <= 30; fuel++) {
            FloodWardens other = new FloodWardens();
            Due.same("addPump with " + fuel, other.addPump(4, 4, 1, fuel), 0);
            Due.same("fuel", other.pump(0, 3), fuel);
            Due.same("it runs, with " + fuel + " of fuel", other.pump(0, 4), 1);
        }
    }

    private static void pumpsOutsideTheTown() {
        Seen.outOfBoundsOutsideTheTown(Call.ADD_PUMP, 1, 0);
        Seen.outOfBoundsOutsideTheTown(Call.ADD_PUMP, 0, 0);
        Seen.outOfBoundsOutsideTheTown(Call.ADD_PUMP, 6, 31);
    }

    private static void pumpsTooWeakOrTooStrong() {
        for (int power : new int[] {0, 6, -1, MIN, MAX}) {
            Seen.badArgument(Call.ADD_PUMP, 4, 6, power, 0);
            Seen.badArgument(Call.ADD_PUMP, 4, 6, power, 30);
            Seen.badArgument(Call.ADD_PUMP, 4, 6, power, 31);
        }
    }

    private static void pumpsWithTooMuchFuel() {
        for (int fuel : new int[] {-1, 31, MIN, MAX}) {
            Seen.badArgument(Call.ADD_PUMP, 4, 6, 1, fuel);
            Seen.badArgument(Call.ADD_PUMP, 4, 6, 5, fuel);
        }
    }

    private static void pumpsTwoInACell() {
        Seen.badStateIn(Towns.LIVED_IN, Call.ADD_PUMP, 0, 1, 1, 0);
        Seen.badStateIn(Towns.LIVED_IN, Call.ADD_PUMP, 9, 1, 5, 30);
        FloodWardens w = new FloodWardens();
        w.addPump(4, 5, 1, 0);
        w.run(0);
        Due.badState("beside a stopped one without fuel", w, () -> w.addPump(4, 5, 1, 0));
        Due.same("in another column", w.addPump(5, 5, 1, 0), 1);
        Due.same("in another row", w.addPump(4, 4, 1, 0), 2);
        Due.same("the other way round", w.addPump(5, 4, 1, 0), 3);
        Due.badState("beside the last", w, () -> w.addPump(5, 4, 1, 0));
        Due.badState("beside the first", w, () -> w.addPump(4, 5, 1, 0));
    }

    private static void pumpsUpTo5() {
        Seen.badStateIn(Towns.FULL, Call.ADD_PUMP, 5, 5, 1, 0);
        Seen.badStateIn(Towns.FULL, Call.ADD_PUMP, 1, 1, 5, 30);
        FloodWardens w = new FloodWardens();
        for (int pump = 0; pump < 5; pump++) {
            Due.same("addPump", w.addPump(pump, 7 - pump, 1, 0), pump);
        }
        for (int pump = 0; pump < 5; pump++) {
            w.run(pump);
        }
        Due.badState("a sixth, though none runs or has fuel", w, () -> w.addPump(9, 7, 1, 1));
    }

    private static void pumpsRefusedForMoreThanOneReason() {
        Seen.outOfBoundsIn(Towns.FULL, Call.ADD_PUMP, 10, 1, 0, 31);
        Seen.outOfBoundsIn(Towns.FULL, Call.ADD_PUMP, 0, 8, 1, 1);
        Seen.badArgumentIn(Towns.FULL, Call.ADD_PUMP, 1, 1, 0, 1);
        Seen.badArgumentIn(Towns.FULL, Call.ADD_PUMP, 1, 1, 1, 31);
        Seen.badArgumentIn(Towns.LIVED_IN, Call.ADD_PUMP, 0, 1, 6, 1);
        Seen.badArgumentIn(Towns.LIVED_IN, Call.ADD_PUMP, 0, 1, 1, -1);
    }

    // ---- Promise 6

    private static void runWithoutPumps() {
        Seen.outOfBoundsIn(Towns.EMPTY, Call.RUN, 0);
    }

    private static void runEachOf5() {
        FloodWardens w = Towns.FULL.make();
        for (int pump = 0; pump < 5; pump++) {
            Due.told("stops", Call.RUN.on(w, pump), "0");
            for (int other = 0; other < 5; other++) {
                Due.same("pump " + other, w.pump(other, 4), other <= pump ? 0 : 1);
            }
        }
        for (int pump = 4; pump >= 0; pump--) {
            Due.told("runs", Call.RUN.on(w, pump), "1");
            for (int other = 0; other < 5; other++) {
                Due.same("pump " + other, w.pump(other, 4), other >= pump ? 1 : 0);
            }
        }
    }

    private static void runOnlyPumpsThatAreThere() {
        for (int pump : new int[] {-1, 5, MIN, MAX}) {
            Seen.outOfBounds(Call.RUN, pump);
        }
        Seen.outOfBoundsIn(Towns.LIVED_IN, Call.RUN, 2);
    }

    // ---- Promise 7

    private static void boardsInTheCorners() {
        FloodWardens w = new FloodWardens();
        for (int number = 0; number < 4; number++) {
            int x = CORNERS[number][0];
            int y = CORNERS[number][1];
            Due.same("addGauge", w.addGauge(x, y, number + 1), number);
            Due.same("x", w.gauge(number, 0), x);
            Due.same("y", w.gauge(number, 1), y);
        }
    }

    private static void boardsOfEachMark() {
        for (int mark = 1; mark <= 20; mark++) {
            FloodWardens w = new FloodWardens();
            Due.same("addGauge with " + mark, w.addGauge(4, 4, mark), 0);
            Due.same("mark", w.gauge(0, 2), mark);
        }
    }

    private static void boardsRefused() {
        Seen.outOfBoundsOutsideTheTown(Call.ADD_GAUGE, 1);
        Seen.outOfBoundsOutsideTheTown(Call.ADD_GAUGE, 0);
        Seen.outOfBoundsOutsideTheTown(Call.ADD_GAUGE, 21);
        for (int mark : new int[] {0, 21, -1, MIN, MAX}) {
            Seen.badArgument(Call.ADD_GAUGE, 4, 6, mark);
            Seen.badArgument(Call.ADD_GAUGE, 9, 7, mark);
        }
    }

    private static void boardsTwoInACell() {
        Seen.badStateIn(Towns.LIVED_IN, Call.ADD_GAUGE, 0, 1, 20);
        Seen.badStateIn(Towns.LIVED_IN, Call.ADD_GAUGE, 9, 7, 1);
        FloodWardens w = new FloodWardens();
        w.addGauge(4, 5, 1);
        Due.same("in another column", w.addGauge(5, 5, 1), 1);
        Due.same("in another row", w.addGauge(4, 4, 1), 2);
        Due.badState("beside the first", w, () -> w.addGauge(4, 5, 2));
        Due.same("the other way round", w.addGauge(5, 4, 1), 3);
    }

    private static void boardsUpTo4() {
        Seen.badStateIn(Towns.FULL, Call.ADD_GAUGE, 5, 5, 1);
        Seen.badStateIn(Towns.FULL, Call.ADD_GAUGE, 0, 1, 20);
        FloodWardens w = new FloodWardens();
        for (int gauge = 0; gauge < 4; gauge++) {
            Due.same("addGauge", w.addGauge(gauge, 7 - gauge, 1), gauge);
        }
        Due.badState("a fifth", w, () -> w.addGauge(9, 7, 1));
    }

    // ---- Promise 8

    private static void refugesInTheCorners() {
        FloodWardens w = new FloodWardens();
        for (int number = 0; number < 4; number++) {
            int x = CORNERS[number][0];
            int y = CORNERS[number][1];
            Due.same("addRefuge", w.addRefuge(x, y, number + 1), number);
            Due.same("x", w.refuge(number, 0), x);
            Due.same("y", w.refuge(number, 1), y);
        }
    }

    private static void refugesOfEachRoom() {
        for (int room = 1; room <= 20; room++) {
            FloodWardens w = new FloodWardens();
            Due.same("addRefuge with " + room, w.addRefuge(4, 4, room), 0);
            Due.same("room", w.refuge(0, 2), room);
            Due.same("nobody is in it", w.refuge(0, 3) + w.refuge(0, 4), 0);
        }
    }

    private static void refugesRefused() {
        Seen.outOfBoundsOutsideTheTown(Call.ADD_REFUGE, 1);
        Seen.outOfBoundsOutsideTheTown(Call.ADD_REFUGE, 0);
        Seen.outOfBoundsOutsideTheTown(Call.ADD_REFUGE, 21);
        for (int room : new int[] {0, 21, -1, MIN, MAX}) {
            Seen.badArgument(Call.ADD_REFUGE, 4, 6, room);
            Seen.badArgument(Call.ADD_REFUGE, 5, 5, room);
        }
    }

    private static void refugesTwoInACell() {
        Seen.badStateIn(Towns.LIVED_IN, Call.ADD_REFUGE, 5, 5, 20);
        Seen.badStateIn(Towns.LIVED_IN, Call.ADD_REFUGE, 2, 6, 1);
        FloodWardens w = new FloodWardens();
        w.addRefuge(4, 5, 1);
        Due.same("in another column", w.addRefuge(5, 5, 1), 1);
        Due.same("in another row", w.addRefuge(4, 4, 1), 2);
        Due.badState("beside the first", w, () -> w.addRefuge(4, 5, 2));
        Due.same("the other way round", w.addRefuge(5, 4, 1), 3);
    }

    private static void refugesUpTo4() {
        Seen.badStateIn(Towns.FULL, Call.ADD_REFUGE, 4, 4, 1);
        Seen.badStateIn(Towns.FULL, Call.ADD_REFUGE, 5, 5, 20);
        FloodWardens w = new FloodWardens();
        for (int refuge = 0; refuge < 4; refuge++) {
            Due.same("addRefuge", w.addRefuge(refuge, 7 - refuge, 1), refuge);
        }
        Due.badState("a fifth", w, () -> w.addRefuge(9, 7, 1));
    }

    // ---- Promise 9

    private static void householdsInTheCorners() {
        FloodWardens w = new FloodWardens();
        for (int number = 0; number < 4; number++) {
            int x = CORNERS[number][0];
            int y = CORNERS[number][1];
            Due.same("settle", w.settle(x, y, number + 1), number);
            Due.same("x", w.household(number, 0), x);
            Due.same("y", w.household(number, 1), y);
        }
    }

    private static void householdsOfEachSize() {
        FloodWardens w = new FloodWardens();
        for (int people = 1; people <= 6; people++) {
            Due.same("settle", w.settle(3, 3, people), people - 1);
            Due.same("people", w.household(people - 1, 2), people);
            Due.same("at home", w.household(people - 1, 3), 0);
        }
        Due.same("people at home", w.count(2), 21);
    }

    private static void householdsRefused() {
        Seen.outOfBoundsOutsideTheTown(Call.SETTLE, 1);
        Seen.outOfBoundsOutsideTheTown(Call.SETTLE, 0);
        Seen.outOfBoundsOutsideTheTown(Call.SETTLE, 7);
        for (int people : new int[] {0, 7, -1, MIN, MAX}) {
            Seen.badArgument(Call.SETTLE, 4, 6, people);
        }
    }

    private static void householdsAllInOneCell() {
        FloodWardens w = new FloodWardens();
        for (int household = 0; household < 10; household++) {
            Due.same("settle", w.settle(9, 7, 6), household);
        }
        Due.same("all in one cell", w.cell(9, 7, 4), 60);
        Due.badState("an eleventh", w, () -> w.settle(9, 7, 1));
        Due.badState("an eleventh elsewhere", w, () -> w.settle(0, 0, 1));
    }

    /** Some of those 10 are lost, and some in refuges, and still they are there. */
    private static void householdsUpTo10() {
        Seen.badStateIn(Towns.FULL, Call.SETTLE, 0, 0, 1);
        Seen.badStateIn(Towns.FULL, Call.SETTLE, 9, 7, 6);
        FloodWardens w = new FloodWardens();
        w.setRiver(0, 10);
        for (int household = 0; household < 10; household++) {
            w.settle(household, 1, 1);
        }
        Due.same("all are lost", w.pass(1), 10);
        Due.same("households", w.count(1), 10);
        Due.badState("an eleventh", w, () -> w.settle(4, 4, 1));
        Due.badArgument("an eleventh of nobody", w, () -> w.settle(4, 4, 0));
        Due.outOfBounds("an eleventh nowhere", w, () -> w.settle(4, 8, 1));
    }

    // ---- Promise 10

    private static void callersInTheCorners() {
        for (int[] c : CORNERS) {
            FloodWardens w = new FloodWardens();
            Due.same("addCaller", w.addCaller(c[0], c[1]), 0);
            Due.same("x", w.caller(0, 0), c[0]);
            Due.same("y", w.caller(0, 1), c[1]);
            Due.same("nobody is warned yet", w.caller(0, 2), 0);
        }
    }

    private static void callersAllInOneCell() {
        FloodWardens w = new FloodWardens();
        for (int caller = 0; caller < 3; caller++) {
            Due.same("addCaller", w.addCaller(4, 4), caller);
        }
        Due.badState("a fourth", w, () -> w.addCaller(4, 4));
    }

    private static void callersRefused() {
        Seen.outOfBoundsOutsideTheTown(Call.ADD_CALLER);
    }

    private static void callersUpTo3() {
        Seen.badStateIn(Towns.FULL, Call.ADD_CALLER, 4, 4);
        Seen.badStateIn(Towns.FULL, Call.ADD_CALLER, 0, 7);
    }

    // ---- all of them

    private static void numbersGoOnBehindARefusal() {
        FloodWardens w = Towns.LIVED_IN.make();
        Due.told("a pump", Call.ADD_PUMP.on(w, 0, 1, 1, 1), "IllegalStateException");
        Due.same("the next pump", w.addPump(0, 2, 1, 1), 2);
        Due.told("a board", Call.ADD_GAUGE.on(w, 0, 1, 21), "IllegalArgumentException");
        Due.same("the next board", w.addGauge(0, 2, 1), 2);
        Due.told("a refuge", Call.ADD_REFUGE.on(w, 5, 5, 1), "IllegalStateException");
        Due.same("the next refuge", w.addRefuge(0, 2, 1), 2);
        Due.told("a household", Call.SETTLE.on(w, 0, 8, 1), "IndexOutOfBoundsException");
        Due.same("the next household", w.settle(0, 2, 1), 4);
        Due.told("a caller", Call.ADD_CALLER.on(w, 10, 0), "IndexOutOfBoundsException");
        Due.same("the next caller", w.addCaller(0, 2), 1);
    }

    /** At most one in each cell is said of each kind for itself. */
    private static void eachKindInOneCell() {
        FloodWardens w = new FloodWardens();
        Due.same("a caller", w.addCaller(0, 0), 0);
        Due.same("a household", w.settle(0, 0, 1), 0);
        Due.same("a refuge", w.addRefuge(0, 0, 1), 0);
        Due.same("a board", w.addGauge(0, 0, 1), 0);
        Due.same("a pump", w.addPump(0, 0, 1, 1), 0);
    }
}
