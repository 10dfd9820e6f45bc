/** Promise 18 and the hour of the Terms, point by point. */
public final class HourTest {
    public static void main(String[] args) {
        pass();
        riverByTheTable();
        flowsToTheLowest();
        flowsAllAtOnce();
        flowsHalfOfTheDifference();
        flowsAtMostWhatIsThere();
        flowsFirstByDirections();
        cutTo40();
        pumps();
        callersOnlyWhenABoardRings();
        callersChoice();
        callersFirstDirection();
        callersOneAfterAnother();
        callersAndWater();
        warnsAround();
        householdsChoice();
        householdsFirstDirection();
        householdsAndRoom();
        householdsAndWater();
        drowning();
        Due.end();
    }

    private static void pass() {
        FloodWardens w = new FloodWardens();
        Due.badArgument("pass(0)", w, () -> w.pass(0));
        Due.badArgument("pass(-1)", w, () -> w.pass(-1));
        Due.badArgument("pass(37)", w, () -> w.pass(37));
        Due.badArgument("pass(min)", w, () -> w.pass(Integer.MIN_VALUE));
        Due.same("pass(1)", w.pass(1), 0);
        Due.same("the hour", w.count(0), 1);
        Due.same("pass(36)", w.pass(36), 0);
        Due.same("the hour", w.count(0), 37);
    }

    private static void at(FloodWardens w, String when, int x, int y, int water) {
        Due.same(when + ": the water of " + x + ", " + y, w.cell(x, y, 2), water);
    }

    private static void riverByTheTable() {
        FloodWardens w = new FloodWardens();
        w.setRiver(11, 5);
        w.pass(11);
        Due.same("no water before the hour 11", w.count(7), 0);
        w.pass(1);
        Due.same("half of 5, cut, into each cell of the first street", w.count(7), 20);
        at(w, "hour 11", 0, 0, 3);
        w.pass(1);
        at(w, "hour 12: the river has what the table tells, no more", 0, 0, 1);
        at(w, "hour 12", 0, 1, 1);

        FloodWardens later = new FloodWardens();
        later.pass(12);
        later.setRiver(0, 8);
        later.setRiver(1, 1);
        later.pass(1);
        Due.same("the hour 12 has the number 0", later.count(7), 40);
    }

    private static void flowsToTheLowest() {
        FloodWardens w = new FloodWardens();
        w.setRiver(0, 8);
        w.setGround(5, 0, 9);
        w.setGround(5, 1, 9);
        w.setGround(4, 0, 1);
        w.setGround(6, 0, 0);
        w.pass(1);
        at(w, "17 beside 8, 9 and 9: the lowest", 5, 0, 4);
        at(w, "nothing for the street", 5, 1, 0);
        at(w, "8 gives 3 and gets 4", 6, 0, 9);
        at(w, "9 gives 3", 4, 0, 5);
        at(w, "and 3 are in the street", 4, 1, 3);
    }

    private static void flowsAllAtOnce() {
        FloodWardens w = new FloodWardens();
        w.setRiver(0, 12);
        w.setRiver(1, 12);
        w.pass(1);
        at(w, "hour 0", 3, 0, 6);
        at(w, "hour 0", 3, 1, 6);
        at(w, "hour 0: what came now does not flow on", 3, 2, 0);
        w.pass(1);
        at(w, "hour 1", 3, 0, 9);
        at(w, "hour 1: 3 came and 3 went", 3, 1, 6);
        at(w, "hour 1", 3, 2, 3);
        w.pass(1);
        at(w, "hour 2: 3 went up, 1 of what is below down", 3, 1, 3);
        at(w, "hour 2: back into the river", 3, 0, 3);
        at(w, "hour 2", 3, 2, 2);
        at(w, "hour 2", 3, 3, 1);
    }

    private static void flowsHalfOfTheDifference() {
        FloodWardens w = new FloodWardens();
        w.setRiver(0, 8);
        w.lay(3, 1, 5);
        w.setGround(5, 1, 8);
        w.setGround(7, 1, 9);
        w.pass(1);
        at(w, "10 beside 2", 1, 1, 4);
        at(w, "10 beside 7: half of 3, cut", 3, 1, 1);
        at(w, "10 beside 7", 3, 0, 7);
        at(w, "10 beside 8: half of 2", 5, 1, 1);
        at(w, "10 beside 9: lower by 1 alone", 7, 1, 0);
        at(w, "10 beside 9", 7, 0, 8);
    }

    private static void flowsAtMostWhatIsThere() {
        FloodWardens w = new FloodWardens();
        w.setRiver(0, 1);
        w.setGround(3, 0, 9);
        w.setGround(3, 1, 0);
        w.pass(1);
        at(w, "10 beside 0, but 1 alone is there", 3, 1, 1);
        at(w, "10 beside 0", 3, 0, 0);
        at(w, "3 beside 2", 4, 0, 1);
    }

    private static void flowsFirstByDirections() {
        FloodWardens w = new FloodWardens();
        w.setRiver(0, 4);
        w.setGround(5, 0, 9);
        w.setGround(5, 1, 6);
        w.pass(1);
        at(w, "6 to the right, below and to the left: to the right", 6, 0, 5);
        at(w, "not below", 5, 1, 0);
        at(w, "not to the left", 4, 0, 2);
        at(w, "3 less", 5, 0, 1);

        FloodWardens below = new FloodWardens();
        below.setRiver(0, 4);
        below.setGround(9, 0, 9);
        below.setGround(9, 1, 6);
        below.pass(1);
        at(below, "6 below and to the left: below", 9, 1, 3);
        at(below, "not to the left", 8, 0, 2);

        FloodWardens up = new FloodWardens();
        up.setRiver(0, 8);
        up.pass(2);
        at(up, "2 above and below: up", 4, 0, 2);
        at(up, "not below", 4, 2, 0);
    }

    /** A town full of water; then all of it is raised around one cell, and most of all the four next to it. */
    private static void cutTo40() {
        FloodWardens w = new FloodWardens();
        for (int hour = 0; hour < 12; hour++) {
            w.setRiver(hour, 12);
        }
        for (int x = 0; x < 10; x++) {
            for (int y = 0; y < 8; y++) {
                w.setGround(x, y, y == 0 ? 9 : 0);
            }
        }
        for (int times = 0; times < 6; times++) {
            w.pass(36);
        }
        for (int x = 0; x < 10; x++) {
            for (int y = 0; y < 8; y++) {
                w.setGround(x, y, x == 5 && y == 3 ? 0 : 9);
            }
        }
        int[] xs = {5, 6, 5, 4};
        int[] ys = {2, 3, 4, 3};
        int due = w.cell(5, 3, 2);
        for (int side = 0; side < 4; side++) {
            w.lay(xs[side], ys[side], 5);
            due += (w.cell(xs[side], ys[side], 3) - w.cell(5, 3, 3)) / 2;
        }
        Due.holds("more than 40 would come", due > 40);
        w.pass(1);
        at(w, "more than 40 is cut", 5, 3, 40);
    }

    private static void pumps() {
        FloodWardens w = new FloodWardens();
        w.setRiver(0, 8);
        w.setRiver(1, 2);
        w.addPump(1, 1, 3, 1);
        w.addPump(3, 1, 5, 30);
        w.addPump(5, 1, 2, 0);
        w.addPump(7, 1, 2, 9);
        w.addPump(9, 6, 2, 9);
        w.run(3);
        w.pass(1);
        at(w, "3 of 4 are taken", 1, 1, 1);
        at(w, "4 of 4 are taken", 3, 1, 0);
        at(w, "without fuel", 5, 1, 4);
        at(w, "stopped", 7, 1, 4);
        int[] fuel = {0, 29, 0, 9, 9};
        int[] taken = {3, 4, 0, 0, 0};
        for (int pump = 0; pump < 5; pump++) {
            Due.same("the fuel of pump " + pump, w.pump(pump, 3), fuel[pump]);
            Due.same("taken by pump " + pump, w.pump(pump, 5), taken[pump]);
        }
        w.run(3);
        w.pass(1);
        at(w, "no fuel any more", 1, 1, 1);
        at(w, "3 came, 1 from above and 2 from the left, and were taken again", 3, 1, 0);
        Due.same("taken in all by pump 1", w.pump(1, 5), 7);
        Due.same("taken in all by pump 3", w.pump(3, 5), 2);
        Due.same("its fuel", w.pump(3, 3), 8);

        FloodWardens last = new FloodWardens();
        last.setRiver(0, 2);
        last.addPump(4, 1, 5, 9);
        last.pass(2);
        at(last, "1 of 1 is taken", 4, 1, 0);
        Due.same("taken", last.pump(0, 5), 1);
        Due.same("no fuel goes where no water is", last.pump(0, 3), 8);
    }

    /** A town in which a board rings from the first hour on, with water so low that all can be walked. */
    private static FloodWardens ringing() {
        FloodWardens w = new FloodWardens();
        w.setRiver(0, 2);
        w.addGauge(0, 1, 1);
        return w;
    }

    private static void isAt(FloodWardens w, String why, int caller, int x, int y) {
        Due.same(why + ": x of caller " + caller, w.caller(caller, 0), x);
        Due.same(why + ": y of caller " + caller, w.caller(caller, 1), y);
    }

    private static void livesAt(FloodWardens w, String why, int household, int x, int y) {
        Due.same(why + ": x of household " + household, w.household(household, 0), x);
        Due.same(why + ": y of household " + household, w.household(household, 1), y);
    }

    private static void callersOnlyWhenABoardRings() {
        FloodWardens w = new FloodWardens();
        w.setRiver(0, 8);
        w.setRiver(1, 8);
        w.addGauge(3, 1, 4);
        w.addPump(3, 1, 1, 1);
        w.addCaller(5, 5);
        w.settle(5, 2, 1);
        w.settle(5, 6, 1);
        w.pass(1);
        Due.same("the pump has it below the mark", w.gauge(0, 3), 3);
        isAt(w, "no board rings", 0, 5, 5);
        Due.same("nobody is warned", w.count(3), 0);
        w.pass(1);
        Due.same("it rings now", w.gauge(0, 4), 1);
        Due.same("the neighbour is warned", w.household(1, 3), 1);
        Due.same("by this one", w.caller(0, 2), 1);
    }

    private static void callersChoice() {
        FloodWardens near = ringing();
        near.settle(5, 1, 1);
        near.settle(8, 5, 1);
        near.addCaller(5, 5);
        near.pass(1);
        isAt(near, "the way of the fewest steps", 0, 6, 5);

        FloodWardens tie = ringing();
        tie.settle(5, 7, 1);
        tie.settle(8, 5, 1);
        tie.settle(5, 2, 1);
        tie.addCaller(5, 4);
        tie.pass(1);
        isAt(tie, "2 up", 0, 5, 3);
        Due.same("warned there", tie.household(2, 3), 1);
        tie.pass(1);
        isAt(tie, "4 either way: the smallest number", 0, 5, 4);

        FloodWardens gone = ringing();
        gone.settle(5, 5, 1);
        gone.settle(2, 5, 1);
        gone.addCaller(6, 5);
        gone.pass(1);
        isAt(gone, "to the one at home", 0, 5, 5);
        gone.pass(1);
        isAt(gone, "one on its way is not looked for", 0, 4, 5);
    }

    private static void callersFirstDirection() {
        int[] xs = {7, 7, 3, 3};
        int[] ys = {2, 6, 6, 2};
        int[] dueX = {5, 6, 5, 5};
        int[] dueY = {3, 4, 5, 3};
        for (int side = 0; side < 4; side++) {
            FloodWardens w = ringing();
            w.settle(xs[side], ys[side], 1);
            w.addCaller(5, 4);
            w.pass(1);
            isAt(w, "to " + xs[side] + ", " + ys[side], 0, dueX[side], dueY[side]);
        }
    }

    private static void callersOneAfterAnother() {
        FloodWardens w = ringing();
        w.settle(5, 3, 1);
        w.settle(0, 7, 1);
        w.addCaller(5, 5);
        w.addCaller(5, 5);
        w.addCaller(6, 5);
        w.pass(1);
        isAt(w, "the first goes to the nearest", 0, 5, 4);
        isAt(w, "for the second that one is warned", 1, 5, 6);
        isAt(w, "for the third, too", 2, 6, 6);
        Due.same("warned by the first", w.caller(0, 2), 1);
        Due.same("warned by the second", w.caller(1, 2), 0);
    }

    private static void callersAndWater() {
        FloodWardens w = new FloodWardens();
        w.setRiver(0, 8);
        w.addGauge(0, 1, 1);
        w.settle(5, 1, 1);
        w.settle(9, 0, 1);
        w.addCaller(5, 3);
        w.addCaller(5, 2);
        w.addCaller(2, 1);
        w.pass(1);
        isAt(w, "no way into deep water", 0, 5, 3);
        isAt(w, "no way, but a neighbour", 1, 5, 2);
        Due.same("warned all the same", w.household(0, 3), 1);
        Due.same("by this one", w.caller(1, 2), 1);
        isAt(w, "nobody to be reached", 2, 2, 1);

        FloodWardens out = new FloodWardens();
        out.setRiver(0, 8);
        out.addGauge(0, 1, 1);
        out.settle(5, 6, 1);
        out.addCaller(5, 1);
        out.pass(1);
        isAt(out, "out of deep water", 0, 5, 2);

        FloodWardens around = new FloodWardens();
        around.setRiver(0, 8);
        around.setGround(4, 1, 9);
        around.addGauge(0, 1, 1);
        around.settle(4, 1, 1);
        around.addCaller(1, 1);
        around.pass(1);
        isAt(around, "round deep water, by the dry street", 0, 1, 2);
    }

    private static void warnsAround() {
        FloodWardens w = ringing();
        w.addCaller(5, 5);
        int[] xs = {5, 5, 5, 6, 5, 4, 6, 4, 5, 3};
        int[] ys = {5, 5, 4, 5, 6, 5, 4, 6, 3, 5};
        for (int household = 0; household < 10; household++) {
            w.settle(xs[household], ys[household], 1);
        }
        w.pass(1);
        for (int household = 0; household < 10; household++) {
            Due.same("state of household " + household, w.household(household, 3), household < 6 ? 1 : 0);
        }
        isAt(w, "0 steps", 0, 5, 5);
        Due.same("warned", w.caller(0, 2), 6);

        FloodWardens edge = ringing();
        edge.addCaller(9, 4);
        edge.settle(9, 4, 1);
        edge.settle(0, 5, 1);
        edge.settle(0, 4, 1);
        edge.pass(1);
        Due.same("the other edge of the town is no neighbour", edge.caller(0, 2), 1);

        FloodWardens left = ringing();
        left.addCaller(0, 5);
        left.settle(0, 5, 1);
        left.settle(9, 4, 1);
        left.settle(9, 5, 1);
        left.addRefuge(9, 4, 6);
        left.pass(1);
        Due.same("the other edge is no neighbour there, too", left.caller(0, 2), 1);
        livesAt(left, "no way leads over the edge: up at first", 0, 0, 4);
        Due.same("9 steps are left", left.household(0, 4), 9);
        left.pass(7);
        isAt(left, "all the way through the town", 0, 7, 5);
        Due.same("one was warned before", left.caller(0, 2), 1);
        left.pass(1);
        isAt(left, "beside 9, 5", 0, 8, 5);
        Due.same("in all two were warned by this one", left.caller(0, 2), 2);
    }

    private static void householdsChoice() {
        FloodWardens w = ringing();
        w.addRefuge(7, 5, 6);
        w.addRefuge(5, 3, 6);
        w.addRefuge(3, 7, 6);
        w.settle(5, 5, 2);
        w.addCaller(5, 5);
        w.pass(1);
        livesAt(w, "warned, it goes in the same hour, to the smallest number", 0, 6, 5);
        Due.same("on its way", w.household(0, 3), 1);
        w.pass(1);
        livesAt(w, "there", 0, 7, 5);
        Due.same("it is in it in the hour of its last step", w.household(0, 3), 2);
        Due.same("its people", w.refuge(0, 3), 2);
        Due.same("its households", w.refuge(0, 4), 1);
        w.pass(36);
        livesAt(w, "stays there", 0, 7, 5);

        FloodWardens near = ringing();
        near.addRefuge(9, 5, 6);
        near.addRefuge(5, 7, 6);
        near.settle(5, 5, 2);
        near.settle(1, 1, 1);
        near.addCaller(5, 5);
        near.pass(1);
        livesAt(near, "the fewest steps", 0, 5, 6);
        Due.same("who is at home stays", near.household(1, 3), 0);
        livesAt(near, "at home", 1, 1, 1);
    }

    private static void householdsFirstDirection() {
        int[] xs = {7, 7, 3, 3};
        int[] ys = {2, 6, 6, 2};
        int[] dueX = {5, 6, 5, 5};
        int[] dueY = {3, 4, 5, 3};
        for (int side = 0; side < 4; side++) {
            FloodWardens w = ringing();
            w.addRefuge(xs[side], ys[side], 6);
            w.settle(5, 4, 6);
            w.addCaller(5, 4);
            w.pass(1);
            livesAt(w, "to " + xs[side] + ", " + ys[side], 0, dueX[side], dueY[side]);
        }
    }

    private static void householdsAndRoom() {
        FloodWardens w = ringing();
        w.addRefuge(5, 6, 3);
        w.addRefuge(5, 2, 2);
        w.settle(5, 5, 3);
        w.settle(5, 5, 2);
        w.settle(5, 6, 4);
        w.settle(5, 6, 1);
        w.addCaller(5, 5);
        w.pass(1);
        Due.same("room for all of the first", w.household(0, 3), 2);
        livesAt(w, "for the second there is the other one", 1, 5, 4);
        Due.same("4 find room nowhere", w.household(2, 3), 1);
        Due.same("they have no way", w.household(2, 4), -1);
        livesAt(w, "they stay", 2, 5, 6);
        livesAt(w, "1 goes, too", 3, 5, 5);
        Due.same("5 in the town", w.count(3), 7);
        w.pass(2);
        Due.same("the second is there first", w.household(1, 3), 2);
        Due.same("nothing is left for the last", w.household(3, 3), 1);
        livesAt(w, "which stays where it is", 3, 5, 4);
        w.addRefuge(5, 4, 1);
        Due.same("at a new one's door", w.household(3, 4), 0);
        w.pass(1);
        Due.same("in it", w.household(3, 3), 2);
        Due.same("its people", w.refuge(2, 3), 1);
    }

    private static void householdsAndWater() {
        FloodWardens w = new FloodWardens();
        w.setRiver(0, 8);
        w.addGauge(0, 1, 1);
        w.addRefuge(4, 0, 6);
        w.addRefuge(5, 1, 6);
        w.addRefuge(9, 7, 6);
        w.settle(4, 1, 1);
        w.settle(5, 1, 1);
        w.settle(6, 1, 1);
        w.addCaller(5, 1);
        w.pass(1);
        livesAt(w, "not into deep water: out of it", 0, 4, 2);
        Due.same("0 steps in deep water", w.household(1, 3), 2);
        livesAt(w, "the far one", 2, 6, 2);
    }

    private static void drowning() {
        FloodWardens w = new FloodWardens();
        w.setRiver(0, 12);
        w.setGround(5, 1, 4);
        w.setGround(6, 1, 5);
        w.settle(3, 1, 2);
        w.settle(5, 1, 2);
        w.settle(6, 1, 2);
        w.settle(8, 1, 1);
        w.settle(8, 4, 1);
        w.settle(9, 0, 3);
        Due.same("pass(1)", w.pass(1), 4);
        int[] people = {1, 1, 2, 0, 1, 2};
        int[] state = {0, 0, 0, 3, 0, 0};
        for (int household = 0; household < 6; household++) {
            Due.same("people of household " + household, w.household(household, 2), people[household]);
            Due.same("state of household " + household, w.household(household, 3), state[household]);
        }
        livesAt(w, "where it was lost", 3, 8, 1);
        Due.same("lost people are nowhere", w.cell(8, 1, 4), 0);
        w.setRiver(1, 12);
        at(w, "hour 0", 5, 1, 5);
        Due.same("another hour: who is lost is not lost again", w.pass(1), 2);
        at(w, "hour 1: 2 came and 3 went", 5, 1, 4);
        Due.same("where there are less than 5 nobody is lost", w.household(1, 2), 1);
        Due.same("lost in all", w.count(5), 6);

        FloodWardens warned = new FloodWardens();
        warned.setRiver(0, 12);
        warned.addGauge(0, 1, 1);
        warned.addRefuge(5, 4, 6);
        warned.addRefuge(2, 1, 1);
        warned.settle(5, 1, 2);
        warned.settle(7, 0, 2);
        warned.settle(2, 1, 1);
        warned.addCaller(5, 2);
        warned.addCaller(7, 0);
        warned.addCaller(2, 1);
        Due.same("who walks out of deep water in time is not lost", warned.pass(1), 1);
        livesAt(warned, "out of it", 0, 5, 2);
        Due.same("on its way in deep water", warned.household(1, 2), 1);
        Due.same("on its way", warned.household(1, 3), 1);
        Due.same("safe in deep water", warned.household(2, 2), 1);
    }
}
