/** The edges of promises 11 to 17: what the calls that only look answer, and what they refuse. */
public final class ThereEdgeTest {
    private static final int MIN = Integer.MIN_VALUE;
    private static final int MAX = Integer.MAX_VALUE;

    public static void main(String[] args) {
        cellOutsideTheTown();
        cellWithoutSuchAFact();
        cellOfTheFourCorners();
        cellCanBeWalkedBelow3();
        cellLevelIsAllThree();
        cellPeopleOfEachState();
        pumpOutOfBounds();
        pumpStoppedOrEmptyTellsWhatItTook();
        gaugeOutOfBounds();
        gaugeRingsFromItsMarkOn();
        gaugeOfTheGreatestMark();
        refugeOutOfBounds();
        refugeFullToTheLastPlace();
        householdOutOfBounds();
        householdWithoutAWay();
        householdStepsThroughTheGap();
        householdStepsFromAndIntoDeepWater();
        householdStepsIntoTheCorners();
        householdStepsAreOfARefugeWithRoom();
        householdLostHasNoWay();
        householdInARefugeHasNoStepsLeft();
        callerOutOfBounds();
        countOutOfBounds();
        countOfNothing();
        countLeavesTheRiverOut();
        countOfAllThatCanBe();
        lookingChangesNothing();
        Due.end();
    }

    /** Numbers of things and facts that are refused, where so many things are, and a thing has so many facts. */
    private static void refusesNumbers(Towns town, Call call, int things, int facts) {
        for (int number : new int[] {-1, things, MIN, MAX}) {
            Seen.outOfBoundsIn(town, call, number, 0);
            Seen.outOfBoundsIn(town, call, number, facts - 1);
            Seen.outOfBoundsIn(town, call, number, facts);
            Seen.outOfBoundsIn(town, call, number, -1);
        }
        for (int what : new int[] {-1, facts, MIN, MAX}) {
            for (int number = 0; number < things; number++) {
                Seen.outOfBoundsIn(town, call, number, what);
            }
        }
        FloodWardens w = town.make();
        for (int number = 0; number < things; number++) {
            for (int what = 0; what < facts; what++) {
                String answer = call.on(w, number, what);
                Due.holds(town + ": " + call.told(number, what) + " answers a number", !answer.endsWith("Exception"));
            }
        }
    }

    // ---- Promise 11

    private static void cellOutsideTheTown() {
        for (int what : new int[] {0, 5, 6, -1}) {
            Seen.outOfBoundsOutsideTheTown(Call.CELL, what);
        }
    }

    private static void cellWithoutSuchAFact() {
        for (int what : new int[] {-1, 6, MIN, MAX}) {
            Seen.outOfBounds(Call.CELL, 0, 0, what);
            Seen.outOfBounds(Call.CELL, 9, 7, what);
        }
    }

    private static void cellOfTheFourCorners() {
        int[][] corners = {{0, 0}, {9, 0}, {0, 7}, {9, 7}};
        FloodWardens w = new FloodWardens();
        for (int number = 0; number < 4; number++) {
            int x = corners[number][0];
            int y = corners[number][1];
            w.setGround(x, y, 6 + number);
            w.lay(x, y, 1 + number);
            w.settle(x, y, 3 + number);
            int[] due = {6 + number, 1 + number, 0, 7 + 2 * number, 3 + number, 1};
            for (int what = 0; what < 6; what++) {
                Due.same("cell(" + x + ", " + y + ", " + what + ")", w.cell(x, y, what), due[what]);
            }
        }
    }

    private static void cellCanBeWalkedBelow3() {
        FloodWardens w = Lake.inRow(4, 0, 1, 2, 3, 4, 5, 0, 0, 0, 0);
        int[] due = {1, 1, 1, 0, 0, 0};
        for (int water = 0; water < 6; water++) {
            Due.same("water", w.cell(water, 4, 2), water);
            Due.same("with " + water + " of water", w.cell(water, 4, 5), due[water]);
        }
        w.setGround(2, 4, 9);
        w.lay(2, 4, 5);
        Due.same("ground and sandbags do not keep from walking", w.cell(2, 4, 5), 1);
    }

    private static void cellLevelIsAllThree() {
        FloodWardens w = Lake.inRow(4, 5, 0, 0, 0, 0, 0, 0, 0, 0, 5);
        w.setGround(9, 4, 9);
        w.lay(9, 4, 5);
        Due.same("9, 5 and 5", w.cell(9, 4, 3), 19);
        w.setGround(9, 4, 0);
        w.lay(9, 4, 0);
        Due.same("water alone", w.cell(9, 4, 3), 5);
        w.setGround(5, 4, 0);
        Due.same("nothing", w.cell(5, 4, 3), 0);
    }

    private static void cellPeopleOfEachState() {
        FloodWardens w = Lake.withBellAt01();
        w.addRefuge(4, 4, 3);
        w.settle(4, 4, 3);
        w.settle(4, 4, 4);
        w.addCaller(4, 4);
        w.pass(1);
        w.settle(4, 4, 5);
        Due.same("in a refuge", w.household(0, 3), 2);
        Due.same("on its way", w.household(1, 3), 1);
        Due.same("at home", w.household(2, 3), 0);
        Due.same("those of the two last", w.cell(4, 4, 4), 9);
        Due.same("elsewhere", w.cell(4, 3, 4), 0);
    }

    // ---- Promise 12

    private static void pumpOutOfBounds() {
        refusesNumbers(Towns.EMPTY, Call.PUMP, 0, 6);
        refusesNumbers(Towns.LIVED_IN, Call.PUMP, 2, 6);
        refusesNumbers(Towns.FULL, Call.PUMP, 5, 6);
    }

    private static void pumpStoppedOrEmptyTellsWhatItTook() {
        FloodWardens w = Lake.inRow(4, 5, 0, 0, 0, 0, 0, 0, 0, 0, 5);
        w.addPump(0, 4, 2, 1);
        w.addPump(9, 4, 1, 9);
        w.pass(1);
        w.run(1);
        w.pass(2);
        int[][] due = {{0, 4, 2, 0, 1, 2}, {9, 4, 1, 8, 0, 1}};
        for (int pump = 0; pump < 2; pump++) {
            for (int what = 0; what < 6; what++) {
                Due.same("pump(" + pump + ", " + what + ")", w.pump(pump, what), due[pump][what]);
            }
        }
        w.run(1);
        w.pass(1);
        Due.same("1 more", w.pump(1, 5), 2);
    }

    // ---- Promise 13

    private static void gaugeOutOfBounds() {
        refusesNumbers(Towns.EMPTY, Call.GAUGE, 0, 5);
        refusesNumbers(Towns.LIVED_IN, Call.GAUGE, 2, 5);
        refusesNumbers(Towns.FULL, Call.GAUGE, 4, 5);
    }

    private static void gaugeRingsFromItsMarkOn() {
        FloodWardens w = Lake.inRow(4, 0, 1, 2, 3, 4, 5, 0, 0, 0, 0);
        w.addGauge(0, 4, 1);
        w.addGauge(1, 4, 1);
        w.addGauge(4, 4, 5);
        w.addGauge(5, 4, 4);
        int[] water = {0, 1, 4, 5};
        int[] ringing = {0, 1, 0, 1};
        for (int gauge = 0; gauge < 4; gauge++) {
            Due.same("water of board " + gauge, w.gauge(gauge, 3), water[gauge]);
            Due.same("ringing of board " + gauge, w.gauge(gauge, 4), ringing[gauge]);
        }
        Due.same("how many ring", w.count(9), 2);
    }

    /** From a river of 21 the streets fill up to 20, and no further. */
    private static void gaugeOfTheGreatestMark() {
        FloodWardens w = new FloodWardens();
        for (int hour = 0; hour < 12; hour++) {
            w.setRiver(hour, 12);
        }
        for (int x = 0; x < 10; x++) {
            w.setGround(x, 0, 9);
            w.setGround(x, 1, 0);
        }
        w.addGauge(4, 1, 20);
        boolean oneLess = false;
        boolean asMuch = false;
        for (int hours = 0; hours < 100; hours++) {
            w.pass(4);
            int water = w.gauge(0, 3);
            Due.same("with " + water + " of water", w.gauge(0, 4), water >= 20 ? 1 : 0);
            oneLess = oneLess || water == 19;
            asMuch = asMuch || water == 20;
        }
        Due.holds("there was 19 of water", oneLess);
        Due.holds("there was 20 of water", asMuch);
    }

    // ---- Promise 14

    private static void refugeOutOfBounds() {
        refusesNumbers(Towns.EMPTY, Call.REFUGE, 0, 5);
        refusesNumbers(Towns.LIVED_IN, Call.REFUGE, 2, 5);
        refusesNumbers(Towns.FULL, Call.REFUGE, 4, 5);
    }

    private static void refugeFullToTheLastPlace() {
        FloodWardens w = Lake.withBellAt01();
        w.addRefuge(4, 4, 20);
        w.addCaller(4, 4);
        int[] people = {6, 6, 6, 3, 2, 1};
        for (int household = 0; household < 6; household++) {
            w.settle(4, 4, people[household]);
        }
        w.pass(1);
        int[] due = {4, 4, 20, 20, 4};
        for (int what = 0; what < 5; what++) {
            Due.same("refuge(0, " + what + ")", w.refuge(0, what), due[what]);
        }
        Due.same("3 are one too many for 18", w.household(3, 3), 1);
        Due.same("2 are just as many as can be", w.household(4, 3), 2);
        Due.same("1 is too many for 20", w.household(5, 3), 1);
        Due.same("and has no way", w.household(5, 4), -1);
    }

    // ---- Promise 15

    private static void householdOutOfBounds() {
        refusesNumbers(Towns.EMPTY, Call.HOUSEHOLD, 0, 5);
        refusesNumbers(Towns.LIVED_IN, Call.HOUSEHOLD, 4, 5);
        refusesNumbers(Towns.FULL, Call.HOUSEHOLD, 10, 5);
    }

    private static void householdWithoutAWay() {
        FloodWardens w = Lake.inRow(3, 3, 3, 3, 3, 3, 3, 3, 3, 3, 3);
        w.settle(0, 2, 1);
        Due.same("without a refuge", w.household(0, 4), -1);
        w.addRefuge(0, 4, 1);
        Due.same("beyond deep water", w.household(0, 4), -1);
        w.addRefuge(9, 0, 1);
        Due.same("on this side", w.household(0, 4), 11);
    }

    private static void householdStepsThroughTheGap() {
        FloodWardens w = Lake.inRow(3, 3, 3, 3, 3, 3, 3, 3, 3, 3, 2);
        w.settle(0, 2, 1);
        w.addRefuge(0, 4, 1);
        Due.same("through 2 of water, as far as the town goes, and back", w.household(0, 4), 20);
        FloodWardens left = Lake.inRow(3, 2, 3, 3, 3, 3, 3, 3, 3, 3, 3);
        left.settle(9, 4, 1);
        left.addRefuge(9, 2, 1);
        Due.same("at the other end", left.household(0, 4), 20);
    }

    private static void householdStepsFromAndIntoDeepWater() {
        FloodWardens w = Lake.inRow(3, 5, 5, 5, 5, 3, 5, 5, 5, 5, 5);
        w.settle(4, 3, 1);
        w.settle(4, 2, 1);
        w.settle(5, 3, 1);
        w.addRefuge(4, 3, 9);
        Due.same("from a cell to itself, in deep water", w.household(0, 4), 0);
        Due.same("the last cell, too, must be such as can be walked", w.household(1, 4), -1);
        Due.same("from deep into deep water", w.household(2, 4), -1);
        w.addRefuge(4, 4, 9);
        Due.same("not through it", w.household(1, 4), -1);
        Due.same("out of deep water is no way through it", w.household(2, 4), 2);
    }

    /** From each cell of the town to each corner; the ways of one household are nothing to the next one. */
    private static void householdStepsIntoTheCorners() {
        int[][] corners = {{0, 0}, {9, 0}, {0, 7}, {9, 7}};
        for (int[] c : corners) {
            for (int y = 0; y < 8; y++) {
                FloodWardens w = new FloodWardens();
                w.addRefuge(c[0], c[1], 1);
                for (int x = 0; x < 10; x++) {
                    w.settle(x, y, 1);
                }
                for (int x = 0; x < 10; x++) {
                    int due = Math.abs(x - c[0]) + Math.abs(y - c[1]);
                    Due.same("from " + x + ", " + y + " to " + c[0] + ", " + c[1], w.household(x, 4), due);
                }
            }
        }
    }

    private static void householdStepsAreOfARefugeWithRoom() {
        FloodWardens w = Lake.withBellAt01();
        w.addRefuge(4, 4, 5);
        w.addRefuge(8, 4, 6);
        w.settle(4, 4, 6);
        w.settle(4, 4, 5);
        Due.same("5 of room are not enough for 6", w.household(0, 4), 4);
        Due.same("5 of room are enough for 5", w.household(1, 4), 0);
        w.addRefuge(4, 6, 1);
        Due.same("1 of room is not enough", w.household(0, 4), 4);
    }

    private static void householdLostHasNoWay() {
        FloodWardens w = Lake.inRow(3, 0, 0, 0, 0, 5, 0, 0, 0, 0, 0);
        w.settle(4, 3, 1);
        w.addRefuge(4, 3, 20);
        w.addRefuge(4, 4, 20);
        Due.same("before", w.household(0, 4), 0);
        Due.same("it is lost", w.pass(1), 1);
        int[] due = {4, 3, 0, 3, -1};
        for (int what = 0; what < 5; what++) {
            Due.same("household(0, " + what + ")", w.household(0, what), due[what]);
        }
    }

    private static void householdInARefugeHasNoStepsLeft() {
        FloodWardens w = Lake.withBellAt01();
        w.addRefuge(4, 4, 3);
        w.settle(4, 4, 3);
        w.addCaller(4, 4);
        w.pass(1);
        Due.same("in a refuge", w.household(0, 3), 2);
        Due.same("0, though there is no room left for all its people", w.household(0, 4), 0);
    }

    // ---- Promise 16

    private static void callerOutOfBounds() {
        refusesNumbers(Towns.EMPTY, Call.CALLER, 0, 3);
        refusesNumbers(Towns.LIVED_IN, Call.CALLER, 1, 3);
        refusesNumbers(Towns.FULL, Call.CALLER, 3, 3);
    }

    // ---- Promise 17

    private static void countOutOfBounds() {
        for (int what : new int[] {-1, 10, MIN, MAX}) {
            Seen.outOfBounds(Call.COUNT, what);
        }
    }

    private static void countOfNothing() {
        FloodWardens w = new FloodWardens();
        w.pass(36);
        Due.same("the hour alone is counted", w.count(0), 36);
        for (int what = 1; what < 10; what++) {
            Due.same("count(" + what + ")", w.count(what), 0);
        }
    }

    private static void countLeavesTheRiverOut() {
        FloodWardens river = new FloodWardens();
        river.setRiver(0, 12);
        for (int x = 0; x < 10; x++) {
            river.setGround(x, 0, 0);
            river.setGround(x, 1, 9);
            river.lay(x, 1, 2);
        }
        river.pass(1);
        Due.same("the river's own water", river.cell(0, 0, 2), 12);
        Due.same("cells", river.count(6), 0);
        Due.same("water", river.count(7), 0);

        FloodWardens first = Lake.inRow(1, 1, 0, 0, 0, 0, 0, 0, 0, 0, 5);
        Due.same("cells of the row y 1", first.count(6), 2);
        Due.same("water of the row y 1", first.count(7), 6);
        FloodWardens last = Lake.inRow(7, 5, 0, 0, 0, 0, 0, 0, 0, 0, 1);
        Due.same("cells of the row y 7", last.count(6), 2);
        Due.same("water of the row y 7", last.count(7), 6);
    }

    private static void countOfAllThatCanBe() {
        FloodWardens w = Lake.inRow(1, 1, 2, 3, 4, 0, 0, 0, 0, 0, 0);
        for (int gauge = 0; gauge < 4; gauge++) {
            w.addGauge(gauge, 1, gauge + 1);
        }
        for (int household = 0; household < 10; household++) {
            w.settle(household, 7, 6);
        }
        for (int x = 0; x < 8; x++) {
            w.lay(x, 7, 5);
        }
        int[] due = {2, 10, 60, 0, 0, 0, 4, 10, 40, 4};
        for (int what = 0; what < 10; what++) {
            Due.same("count(" + what + ")", w.count(what), due[what]);
        }
    }

    private static void lookingChangesNothing() {
        for (Towns town : Towns.values()) {
            Seen.onlyLooks(town, Call.CELL, 9, 7, 5);
            Seen.onlyLooks(town, Call.COUNT, 9);
            Seen.onlyLooks(town, Call.HOUSEHOLD, 0, 4);
            Seen.onlyLooks(town, Call.PUMP, 0, 5);
            Seen.onlyLooks(town, Call.GAUGE, 0, 4);
            Seen.onlyLooks(town, Call.REFUGE, 0, 4);
            Seen.onlyLooks(town, Call.CALLER, 0, 2);
        }
    }
}
