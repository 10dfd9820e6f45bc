/** Promises 11 to 17: cell, pump, gauge, refuge, household, caller, count. */
public final class ThereTest {
    public static void main(String[] args) {
        cell();
        pump();
        gauge();
        refuge();
        household();
        caller();
        count();
        Due.end();
    }

    /** A river of 8 that flows for an hour into a street with ground of its own in two cells. */
    private static FloodWardens floodedStreet() {
        FloodWardens w = new FloodWardens();
        w.setRiver(0, 8);
        w.setGround(3, 1, 4);
        w.lay(3, 1, 2);
        w.setGround(4, 1, 4);
        return w;
    }

    private static void cell() {
        FloodWardens w = floodedStreet();
        w.settle(3, 1, 4);
        w.settle(3, 1, 2);
        w.settle(4, 1, 1);
        w.pass(1);
        int[] due = {4, 2, 2, 8, 6, 1};
        for (int what = 0; what < 6; what++) {
            Due.same("cell(3, 1, " + what + ")", w.cell(3, 1, what), due[what]);
        }
        Due.same("cell(4, 1, 2)", w.cell(4, 1, 2), 3);
        Due.same("cell(4, 1, 3)", w.cell(4, 1, 3), 7);
        Due.same("cell(4, 1, 4)", w.cell(4, 1, 4), 1);
        Due.same("3 of water is too deep: cell(4, 1, 5)", w.cell(4, 1, 5), 0);
        Due.same("cell(5, 1, 2)", w.cell(5, 1, 2), 4);
        Due.same("cell(5, 1, 4)", w.cell(5, 1, 4), 0);
        Due.same("what the river kept: cell(5, 0, 2)", w.cell(5, 0, 2), 4);
        Due.outOfBounds("cell(-1, 0, 0)", w, () -> w.cell(-1, 0, 0));
        Due.outOfBounds("cell(10, 0, 0)", w, () -> w.cell(10, 0, 0));
        Due.outOfBounds("cell(0, -1, 0)", w, () -> w.cell(0, -1, 0));
        Due.outOfBounds("cell(0, 8, 0)", w, () -> w.cell(0, 8, 0));
        Due.outOfBounds("cell(0, 0, -1)", w, () -> w.cell(0, 0, -1));
        Due.outOfBounds("cell(0, 0, 6)", w, () -> w.cell(0, 0, 6));
    }

    private static void pump() {
        FloodWardens w = floodedStreet();
        w.addPump(5, 1, 3, 9);
        w.addPump(9, 7, 5, 30);
        w.run(1);
        w.pass(1);
        int[] due = {5, 1, 3, 8, 1, 3};
        int[] dueOfOther = {9, 7, 5, 30, 0, 0};
        for (int what = 0; what < 6; what++) {
            Due.same("pump(0, " + what + ")", w.pump(0, what), due[what]);
            Due.same("pump(1, " + what + ")", w.pump(1, what), dueOfOther[what]);
        }
        Due.outOfBounds("pump(-1, 0)", w, () -> w.pump(-1, 0));
        Due.outOfBounds("pump(2, 0)", w, () -> w.pump(2, 0));
        Due.outOfBounds("pump(0, -1)", w, () -> w.pump(0, -1));
        Due.outOfBounds("pump(0, 6)", w, () -> w.pump(0, 6));
    }

    private static void gauge() {
        FloodWardens w = floodedStreet();
        w.addGauge(5, 1, 4);
        w.addGauge(4, 1, 4);
        Due.same("gauge(0, 4) before", w.gauge(0, 4), 0);
        w.pass(1);
        int[] due = {5, 1, 4, 4, 1};
        int[] dueOfOther = {4, 1, 4, 3, 0};
        for (int what = 0; what < 5; what++) {
            Due.same("gauge(0, " + what + ")", w.gauge(0, what), due[what]);
            Due.same("gauge(1, " + what + ")", w.gauge(1, what), dueOfOther[what]);
        }
        Due.outOfBounds("gauge(-1, 0)", w, () -> w.gauge(-1, 0));
        Due.outOfBounds("gauge(2, 0)", w, () -> w.gauge(2, 0));
        Due.outOfBounds("gauge(0, -1)", w, () -> w.gauge(0, -1));
        Due.outOfBounds("gauge(0, 5)", w, () -> w.gauge(0, 5));
    }

    /** Two households in a refuge's cell, who are warned there, and a third, for whom there is no room. */
    private static FloodWardens warnedAtRefuge() {
        FloodWardens w = new FloodWardens();
        w.setRiver(0, 2);
        w.addGauge(0, 1, 1);
        w.addRefuge(2, 6, 20);
        w.addRefuge(7, 6, 5);
        w.settle(7, 6, 3);
        w.settle(7, 6, 2);
        w.settle(8, 6, 6);
        w.addCaller(7, 6);
        w.pass(1);
        return w;
    }

    private static void refuge() {
        FloodWardens w = warnedAtRefuge();
        int[] due = {2, 6, 20, 0, 0};
        int[] dueOfOther = {7, 6, 5, 5, 2};
        for (int what = 0; what < 5; what++) {
            Due.same("refuge(0, " + what + ")", w.refuge(0, what), due[what]);
            Due.same("refuge(1, " + what + ")", w.refuge(1, what), dueOfOther[what]);
        }
        Due.outOfBounds("refuge(-1, 0)", w, () -> w.refuge(-1, 0));
        Due.outOfBounds("refuge(2, 0)", w, () -> w.refuge(2, 0));
        Due.outOfBounds("refuge(0, -1)", w, () -> w.refuge(0, -1));
        Due.outOfBounds("refuge(0, 5)", w, () -> w.refuge(0, 5));
    }

    private static void household() {
        FloodWardens w = warnedAtRefuge();
        w.settle(9, 0, 1);
        int[] safe = {7, 6, 2, 2, 0};
        int[] onItsWay = {7, 6, 6, 1, 5};
        int[] atHome = {9, 0, 1, 0, 13};
        for (int what = 0; what < 5; what++) {
            Due.same("household(1, " + what + ")", w.household(1, what), safe[what]);
            Due.same("household(2, " + what + ")", w.household(2, what), onItsWay[what]);
            Due.same("household(3, " + what + ")", w.household(3, what), atHome[what]);
        }
        Due.outOfBounds("household(-1, 0)", w, () -> w.household(-1, 0));
        Due.outOfBounds("household(4, 0)", w, () -> w.household(4, 0));
        Due.outOfBounds("household(0, -1)", w, () -> w.household(0, -1));
        Due.outOfBounds("household(0, 5)", w, () -> w.household(0, 5));
        lostHousehold();
        stepsOverWater();
    }

    private static void lostHousehold() {
        FloodWardens w = new FloodWardens();
        w.setRiver(0, 12);
        w.settle(6, 1, 1);
        w.addRefuge(6, 1, 20);
        Due.same("0 steps at home in a refuge's cell", w.household(0, 4), 0);
        w.pass(1);
        int[] lost = {6, 1, 0, 3, -1};
        for (int what = 0; what < 5; what++) {
            Due.same("lost: household(0, " + what + ")", w.household(0, what), lost[what]);
        }
    }

    private static void stepsOverWater() {
        FloodWardens w = floodedStreet();
        w.settle(6, 1, 6);
        w.settle(6, 0, 6);
        w.settle(3, 2, 2);
        Due.same("without a refuge", w.household(0, 4), -1);
        w.addRefuge(6, 3, 5);
        Due.same("without a refuge with room for all", w.household(0, 4), -1);
        w.addRefuge(6, 4, 6);
        Due.same("to the further one, with room for all", w.household(0, 4), 3);
        Due.same("over a dry street", w.household(1, 4), 4);
        Due.same("to the nearer one, with room for them", w.household(2, 4), 4);
        w.pass(1);
        Due.same("out of deep water", w.household(0, 4), 3);
        Due.same("not through deep water", w.household(1, 4), -1);
        w.addRefuge(6, 1, 20);
        Due.same("0 steps, whatever water there is", w.household(0, 4), 0);
        Due.same("not into deep water", w.household(1, 4), -1);
    }

    private static void caller() {
        FloodWardens w = warnedAtRefuge();
        w.addCaller(0, 7);
        int[] due = {7, 6, 3};
        int[] dueOfOther = {0, 7, 0};
        for (int what = 0; what < 3; what++) {
            Due.same("caller(0, " + what + ")", w.caller(0, what), due[what]);
            Due.same("caller(1, " + what + ")", w.caller(1, what), dueOfOther[what]);
        }
        Due.outOfBounds("caller(-1, 0)", w, () -> w.caller(-1, 0));
        Due.outOfBounds("caller(2, 0)", w, () -> w.caller(2, 0));
        Due.outOfBounds("caller(0, -1)", w, () -> w.caller(0, -1));
        Due.outOfBounds("caller(0, 3)", w, () -> w.caller(0, 3));
    }

    private static void count() {
        FloodWardens w = warnedAtRefuge();
        w.settle(0, 7, 4);
        w.lay(0, 7, 3);
        w.lay(0, 0, 4);
        w.addGauge(5, 1, 1);
        w.addGauge(5, 0, 2);
        int[] due = {1, 4, 4, 6, 5, 0, 10, 10, 7, 2};
        for (int what = 0; what < 10; what++) {
            Due.same("count(" + what + ")", w.count(what), due[what]);
        }
        Due.outOfBounds("count(-1)", w, () -> w.count(-1));
        Due.outOfBounds("count(10)", w, () -> w.count(10));
        countLost();
    }

    private static void countLost() {
        FloodWardens w = new FloodWardens();
        w.setRiver(0, 12);
        w.settle(6, 1, 1);
        w.settle(7, 1, 3);
        w.pass(1);
        Due.same("households, lost ones, too", w.count(1), 2);
        Due.same("people at home", w.count(2), 2);
        Due.same("people on their way", w.count(3), 0);
        Due.same("people in refuges", w.count(4), 0);
        Due.same("people that were lost in all", w.count(5), 2);
    }
}
