/** Promises 5 to 10: addPump, run, addGauge, addRefuge, settle, addCaller. */
public final class WardensTest {
    public static void main(String[] args) {
        addPump();
        run();
        addGauge();
        addRefuge();
        settle();
        addCaller();
        kindsShareACell();
        Due.end();
    }

    private static void addPump() {
        FloodWardens w = new FloodWardens();
        Due.same("addPump(0, 0, 1, 0)", w.addPump(0, 0, 1, 0), 0);
        Due.same("addPump(9, 7, 5, 30)", w.addPump(9, 7, 5, 30), 1);
        Due.outOfBounds("addPump(-1, 0, 0, 0)", w, () -> w.addPump(-1, 0, 0, 0));
        Due.outOfBounds("addPump(10, 0, 1, 0)", w, () -> w.addPump(10, 0, 1, 0));
        Due.outOfBounds("addPump(0, -1, 1, 0)", w, () -> w.addPump(0, -1, 1, 0));
        Due.outOfBounds("addPump(0, 8, 1, 31)", w, () -> w.addPump(0, 8, 1, 31));
        Due.badArgument("addPump(0, 0, 0, 0)", w, () -> w.addPump(0, 0, 0, 0));
        Due.badArgument("addPump(1, 0, 6, 0)", w, () -> w.addPump(1, 0, 6, 0));
        Due.badArgument("addPump(1, 0, 1, -1)", w, () -> w.addPump(1, 0, 1, -1));
        Due.badArgument("addPump(1, 0, 1, 31)", w, () -> w.addPump(1, 0, 1, 31));
        Due.badState("addPump(0, 0, 1, 0) again", w, () -> w.addPump(0, 0, 1, 0));
        Due.badState("addPump(9, 7, 1, 0) again", w, () -> w.addPump(9, 7, 1, 0));
        Due.same("addPump(1, 0, 2, 3)", w.addPump(1, 0, 2, 3), 2);
        Due.same("addPump(2, 0, 2, 3)", w.addPump(2, 0, 2, 3), 3);
        Due.same("addPump(3, 0, 2, 3)", w.addPump(3, 0, 2, 3), 4);
        Due.badState("a sixth pump", w, () -> w.addPump(4, 0, 2, 3));
        Due.badArgument("a sixth pump without power", w, () -> w.addPump(4, 0, 0, 3));
        Due.outOfBounds("a sixth pump nowhere", w, () -> w.addPump(4, 9, 2, 3));
        Due.same("it runs at first", w.pump(4, 4), 1);
    }

    private static void run() {
        FloodWardens w = new FloodWardens();
        Due.outOfBounds("run(0) without pumps", w, () -> w.run(0) ? 1 : 0);
        w.addPump(1, 1, 1, 1);
        w.addPump(2, 1, 1, 0);
        Due.holds("run(0) stops it", !w.run(0));
        Due.same("pump(0, 4)", w.pump(0, 4), 0);
        Due.same("pump(1, 4)", w.pump(1, 4), 1);
        Due.holds("run(0) has it run", w.run(0));
        Due.same("pump(0, 4)", w.pump(0, 4), 1);
        Due.holds("run(1) stops it", !w.run(1));
        Due.holds("run(1) has it run, without fuel, too", w.run(1));
        Due.outOfBounds("run(-1)", w, () -> w.run(-1) ? 1 : 0);
        Due.outOfBounds("run(2)", w, () -> w.run(2) ? 1 : 0);
        Due.outOfBounds("run(max)", w, () -> w.run(Integer.MAX_VALUE) ? 1 : 0);
    }

    private static void addGauge() {
        FloodWardens w = new FloodWardens();
        Due.same("addGauge(0, 0, 1)", w.addGauge(0, 0, 1), 0);
        Due.same("addGauge(9, 7, 20)", w.addGauge(9, 7, 20), 1);
        Due.outOfBounds("addGauge(-1, 0, 0)", w, () -> w.addGauge(-1, 0, 0));
        Due.outOfBounds("addGauge(10, 0, 1)", w, () -> w.addGauge(10, 0, 1));
        Due.outOfBounds("addGauge(0, -1, 1)", w, () -> w.addGauge(0, -1, 1));
        Due.outOfBounds("addGauge(0, 8, 21)", w, () -> w.addGauge(0, 8, 21));
        Due.badArgument("addGauge(0, 0, 0)", w, () -> w.addGauge(0, 0, 0));
        Due.badArgument("addGauge(1, 0, 21)", w, () -> w.addGauge(1, 0, 21));
        Due.badState("addGauge(9, 7, 1) again", w, () -> w.addGauge(9, 7, 1));
        Due.same("addGauge(1, 0, 2)", w.addGauge(1, 0, 2), 2);
        Due.same("addGauge(2, 0, 2)", w.addGauge(2, 0, 2), 3);
        Due.badState("a fifth board", w, () -> w.addGauge(3, 0, 2));
        Due.badArgument("a fifth board without a mark", w, () -> w.addGauge(3, 0, 0));
    }

    private static void addRefuge() {
        FloodWardens w = new FloodWardens();
        Due.same("addRefuge(0, 0, 1)", w.addRefuge(0, 0, 1), 0);
        Due.same("addRefuge(9, 7, 20)", w.addRefuge(9, 7, 20), 1);
        Due.outOfBounds("addRefuge(-1, 0, 0)", w, () -> w.addRefuge(-1, 0, 0));
        Due.outOfBounds("addRefuge(10, 0, 1)", w, () -> w.addRefuge(10, 0, 1));
        Due.outOfBounds("addRefuge(0, -1, 1)", w, () -> w.addRefuge(0, -1, 1));
        Due.outOfBounds("addRefuge(0, 8, 21)", w, () -> w.addRefuge(0, 8, 21));
        Due.badArgument("addRefuge(0, 0, 0)", w, () -> w.addRefuge(0, 0, 0));
        Due.badArgument("addRefuge(1, 0, 21)", w, () -> w.addRefuge(1, 0, 21));
        Due.badState("addRefuge(9, 7, 1) again", w, () -> w.addRefuge(9, 7, 1));
        Due.same("addRefuge(1, 0, 2)", w.addRefuge(1, 0, 2), 2);
        Due.same("addRefuge(2, 0, 2)", w.addRefuge(2, 0, 2), 3);
        Due.badState("a fifth refuge", w, () -> w.addRefuge(3, 0, 2));
        Due.badArgument("a fifth refuge without room", w, () -> w.addRefuge(3, 0, 0));
    }

    private static void settle() {
        FloodWardens w = new FloodWardens();
        Due.same("settle(0, 0, 1)", w.settle(0, 0, 1), 0);
        Due.same("settle(9, 7, 6)", w.settle(9, 7, 6), 1);
        Due.same("settle(9, 7, 2) in the same cell", w.settle(9, 7, 2), 2);
        Due.outOfBounds("settle(-1, 0, 0)", w, () -> w.settle(-1, 0, 0));
        Due.outOfBounds("settle(10, 0, 1)", w, () -> w.settle(10, 0, 1));
        Due.outOfBounds("settle(0, -1, 1)", w, () -> w.settle(0, -1, 1));
        Due.outOfBounds("settle(0, 8, 7)", w, () -> w.settle(0, 8, 7));
        Due.badArgument("settle(0, 0, 0)", w, () -> w.settle(0, 0, 0));
        Due.badArgument("settle(0, 0, 7)", w, () -> w.settle(0, 0, 7));
        for (int number = 3; number < 10; number++) {
            Due.same("household " + number, w.settle(number, 3, 1), number);
        }
        Due.badState("an eleventh household", w, () -> w.settle(0, 0, 1));
        Due.badArgument("an eleventh household of nobody", w, () -> w.settle(0, 0, 0));
        Due.same("it is at home", w.household(9, 3), 0);
        Due.same("people at home", w.count(2), 16);
    }

    private static void addCaller() {
        FloodWardens w = new FloodWardens();
        Due.same("addCaller(9, 7)", w.addCaller(9, 7), 0);
        Due.same("addCaller(9, 7) in the same cell", w.addCaller(9, 7), 1);
        Due.outOfBounds("addCaller(-1, 0)", w, () -> w.addCaller(-1, 0));
        Due.outOfBounds("addCaller(10, 0)", w, () -> w.addCaller(10, 0));
        Due.outOfBounds("addCaller(0, -1)", w, () -> w.addCaller(0, -1));
        Due.outOfBounds("addCaller(0, 8)", w, () -> w.addCaller(0, 8));
        Due.same("addCaller(0, 0)", w.addCaller(0, 0), 2);
        Due.badState("a fourth caller", w, () -> w.addCaller(1, 1));
        Due.outOfBounds("a fourth caller nowhere", w, () -> w.addCaller(10, 1));
    }

    /** At most one in each cell is said of each kind for itself. */
    private static void kindsShareACell() {
        FloodWardens w = new FloodWardens();
        Due.same("addPump(4, 4, 1, 1)", w.addPump(4, 4, 1, 1), 0);
        Due.same("addGauge(4, 4, 1)", w.addGauge(4, 4, 1), 0);
        Due.same("addRefuge(4, 4, 1)", w.addRefuge(4, 4, 1), 0);
        Due.same("settle(4, 4, 1)", w.settle(4, 4, 1), 0);
        Due.same("addCaller(4, 4)", w.addCaller(4, 4), 0);
    }
}
