/** Promise 18, and the edges of the points 4 to 7 of an hour: callers, households, who is lost, the hour. */
public final class PeopleEdgeTest {
    private static final int HOME = 0;
    private static final int WAY = 1;
    private static final int SAFE = 2;
    private static final int LOST = 3;

    public static void main(String[] args) {
        passFrom1To36();
        passRefusesOtherHours();
        passIsHourAfterHour();
        passTellsWhoIsLostInThem();
        callersStayWhenNoBoardRings();
        callersGoWhenOneBoardOfFourRings();
        callersGoByTheWaterBehindThePumps();
        callersWithoutAnybodyToWarn();
        callersLookForNobodyButThoseAtHome();
        callersOfZeroStepsStay();
        callersWarnAroundWhereTheyAreThen();
        callersWarnTheFourSides();
        callersWarnNotOverTheSidesOfTheTown();
        callersTakeTheSmallestNumber();
        callersTakeTheFirstDirection();
        callersGoThrough2OfWaterAndNot3();
        callersInDeepWater();
        callersCountHouseholdsOnce();
        callersFromTheLeastNumberToTheLast();
        noCallersWarnNobody();
        householdsWithoutARefugeStay();
        householdsGoOnWhenNoBoardRings();
        householdsEnterInTheHourOfTheWarning();
        householdsTakeTheSmallestNumber();
        householdsTakeTheLastOfFourRefuges();
        householdsTakeTheFirstDirection();
        householdsGoThrough2OfWaterAndNot3();
        householdsPassByAFullRefuge();
        householdsTakeTheLastRoomByTheirNumbers();
        householdsInARefugeUnderWater();
        householdsShrinkUntilThereIsRoom();
        lostIn5OfWaterAndNot4();
        lostOneByOne();
        lostOnTheirWay();
        lostNobodyInARefuge();
        lostNobodyWhoWalksOutInTime();
        lostAreWarnedNoMore();
        hoursAreCounted();
        Due.end();
    }

    private static void callerIsAt(FloodWardens w, String why, int caller, int x, int y) {
        Due.same(why + ": x of caller " + caller, w.caller(caller, 0), x);
        Due.same(why + ": y of caller " + caller, w.caller(caller, 1), y);
    }

    private static void isAt(FloodWardens w, String why, int household, int x, int y, int state) {
        Due.same(why + ": x of household " + household, w.household(household, 0), x);
        Due.same(why + ": y of household " + household, w.household(household, 1), y);
        Due.same(why + ": state of household " + household, w.household(household, 3), state);
    }

    // ---- Promise 18

    private static void passFrom1To36() {
        for (int hours = 1; hours <= 36; hours++) {
            FloodWardens w = new FloodWardens();
            Due.same("pass(" + hours + ")", w.pass(hours), 0);
            Due.same("the hour", w.count(0), hours);
        }
    }

    private static void passRefusesOtherHours() {
        for (int hours : new int[] {0, 37, -1, -36, 48, Integer.MIN_VALUE, Integer.MAX_VALUE}) {
            Seen.badArgument(Call.PASS, hours);
        }
    }

    private static void passIsHourAfterHour() {
        for (Towns town : Towns.values()) {
            FloodWardens atOnce = town.make();
            FloodWardens oneByOne = town.make();
            int lost = 0;
            for (int hour = 0; hour < 36; hour++) {
                lost += oneByOne.pass(1);
            }
            Due.same(town + ": pass(36)", atOnce.pass(36), lost);
            Due.same(town + ": digest()", atOnce.digest(), oneByOne.digest());
        }
    }

    private static void passTellsWhoIsLostInThem() {
        FloodWardens w = Lake.inRow(3, 5, 0, 0, 0, 0, 0, 0, 0, 0, 0);
        w.settle(0, 3, 6);
        Due.same("pass(1)", w.pass(1), 1);
        Due.same("pass(2), without the one before", w.pass(2), 2);
        Due.same("pass(36)", w.pass(36), 3);
        Due.same("pass(36) when all are lost", w.pass(36), 0);
        Due.same("in all", w.count(5), 6);
    }

    // ---- the callers

    /** 1 of water in the cell 0, 1, and a household at home two steps from a caller. */
    private static FloodWardens twoStepsFromACaller() {
        FloodWardens w = Lake.inRow(1, 1, 0, 0, 0, 0, 0, 0, 0, 0, 0);
        w.settle(6, 4, 1);
        w.addCaller(4, 4);
        return w;
    }

    private static void callersStayWhenNoBoardRings() {
        FloodWardens none = twoStepsFromACaller();
        none.pass(1);
        callerIsAt(none, "there is no board", 0, 4, 4);
        isAt(none, "there is no board", 0, 6, 4, HOME);

        FloodWardens high = twoStepsFromACaller();
        high.addGauge(0, 1, 2);
        high.pass(1);
        callerIsAt(high, "1 of water is less than 2", 0, 4, 4);
        isAt(high, "1 of water is less than 2", 0, 6, 4, HOME);

        FloodWardens just = twoStepsFromACaller();
        just.addGauge(0, 1, 1);
        just.pass(1);
        callerIsAt(just, "1 of water is enough", 0, 5, 4);
        isAt(just, "1 of water is enough", 0, 6, 4, WAY);

        FloodWardens beside = twoStepsFromACaller();
        beside.settle(4, 4, 1);
        beside.pass(1);
        isAt(beside, "nobody is warned in its own cell", 1, 4, 4, HOME);
    }

    private static void callersGoWhenOneBoardOfFourRings() {
        for (int ringing = 0; ringing < 4; ringing++) {
            FloodWardens w = twoStepsFromACaller();
            for (int gauge = 0; gauge < 4; gauge++) {
                w.addGauge(gauge == ringing ? 0 : 5 + gauge, 1, 1);
            }
            Due.same("one rings", w.count(9), 1);
            w.pass(1);
            callerIsAt(w, "board " + ringing + " rings", 0, 5, 4);
        }
    }

    private static void callersGoByTheWaterBehindThePumps() {
        FloodWardens w = twoStepsFromACaller();
        w.addGauge(0, 1, 1);
        w.addPump(0, 1, 1, 1);
        Due.same("it rings before the hour", w.gauge(0, 4), 1);
        w.pass(1);
        callerIsAt(w, "the pump took the water", 0, 4, 4);
        isAt(w, "the pump took the water", 0, 6, 4, HOME);
    }

    private static void callersWithoutAnybodyToWarn() {
        FloodWardens w = Lake.withBellAt01();
        w.addCaller(4, 4);
        w.addCaller(0, 1);
        w.pass(3);
        callerIsAt(w, "no households", 0, 4, 4);
        callerIsAt(w, "no households", 1, 0, 1);
        Due.same("warned", w.caller(0, 2), 0);
    }

    private static void callersLookForNobodyButThoseAtHome() {
        FloodWardens w = Lake.inRow(3, 5, 0, 0, 0, 0, 0, 0, 0, 0, 0);
        w.addGauge(0, 3, 5);
        w.settle(0, 3, 1);
        w.settle(4, 6, 2);
        w.settle(5, 6, 3);
        w.addRefuge(4, 6, 2);
        w.addCaller(5, 6);
        w.pass(1);
        isAt(w, "lost", 0, 0, 3, LOST);
        isAt(w, "in a refuge", 1, 4, 6, SAFE);
        isAt(w, "on its way", 2, 5, 6, WAY);
        w.addRefuge(5, 4, 3);
        w.pass(3);
        isAt(w, "it went on", 2, 5, 4, SAFE);
        callerIsAt(w, "nobody is at home", 0, 5, 6);
        Due.same("warned", w.caller(0, 2), 2);
    }

    private static void callersOfZeroStepsStay() {
        FloodWardens w = Lake.withBellAt01();
        w.settle(5, 4, 1);
        w.settle(4, 4, 1);
        w.settle(4, 7, 1);
        w.addCaller(4, 4);
        w.pass(1);
        callerIsAt(w, "with a household in its own cell", 0, 4, 4);
        Due.same("it warns there and beside it", w.caller(0, 2), 2);
        w.pass(1);
        callerIsAt(w, "then it goes on", 0, 4, 5);
    }

    /** 4, 3 is deep water, so that nobody looks for who is at home there. */
    private static void callersWarnAroundWhereTheyAreThen() {
        FloodWardens w = Lake.inRow(3, 0, 0, 0, 0, 3, 0, 0, 0, 0, 0);
        w.addGauge(4, 3, 3);
        w.settle(4, 3, 1);
        w.settle(7, 4, 1);
        w.addCaller(4, 4);
        w.pass(1);
        callerIsAt(w, "a step to the right", 0, 5, 4);
        isAt(w, "beside where it was", 0, 4, 3, HOME);
        w.pass(1);
        callerIsAt(w, "another step", 0, 6, 4);
        isAt(w, "beside where it is", 1, 7, 4, WAY);
    }

    private static void callersWarnTheFourSides() {
        FloodWardens w = Lake.withBellAt01();
        w.addCaller(4, 4);
        int[] xs = {4, 4, 5, 4, 3, 5, 5, 3, 3, 6};
        int[] ys = {4, 3, 4, 5, 4, 3, 5, 5, 3, 4};
        for (int household = 0; household < 10; household++) {
            w.settle(xs[household], ys[household], 1);
        }
        w.pass(1);
        for (int household = 0; household < 10; household++) {
            int due = household < 5 ? WAY : HOME;
            isAt(w, "around 4, 4", household, xs[household], ys[household], due);
        }
    }

    private static void callersWarnNotOverTheSidesOfTheTown() {
        int[][] corners = {{0, 0}, {9, 0}, {0, 7}, {9, 7}};
        for (int[] c : corners) {
            FloodWardens w = Lake.withBellAt01();
            w.addCaller(c[0], c[1]);
            w.settle(c[0], c[1], 1);
            w.settle(c[0] == 0 ? 1 : 8, c[1], 1);
            w.settle(c[0], c[1] == 0 ? 1 : 6, 1);
            w.settle(9 - c[0], c[1], 1);
            w.settle(c[0], 7 - c[1], 1);
            w.settle(9 - c[0], c[1] == 0 ? 1 : 6, 1);
            w.pass(1);
            Due.same("around " + c[0] + ", " + c[1], w.caller(0, 2), 3);
            Due.same("the first three", w.household(0, 3) + w.household(1, 3) + w.household(2, 3), 3);
        }
        FloodWardens right = Lake.withBellAt01();
        right.addCaller(9, 4);
        right.settle(9, 4, 1);
        right.settle(0, 4, 1);
        right.settle(0, 5, 1);
        right.pass(1);
        Due.same("right of 9, 4 there is no cell", right.caller(0, 2), 1);
        FloodWardens left = Lake.withBellAt01();
        left.addCaller(0, 4);
        left.settle(0, 4, 1);
        left.settle(9, 4, 1);
        left.settle(9, 3, 1);
        left.pass(1);
        Due.same("left of 0, 4 there is no cell", left.caller(0, 2), 1);
    }

    private static void callersTakeTheSmallestNumber() {
        FloodWardens w = Lake.withBellAt01();
        w.settle(1, 4, 1);
        w.settle(4, 7, 1);
        w.settle(4, 1, 1);
        w.addCaller(4, 4);
        w.pass(1);
        callerIsAt(w, "3 steps to each of them: to the left", 0, 3, 4);
        FloodWardens nearer = Lake.withBellAt01();
        nearer.settle(1, 4, 1);
        nearer.settle(4, 6, 1);
        nearer.addCaller(4, 4);
        nearer.pass(1);
        callerIsAt(nearer, "2 steps are fewer than 3", 0, 4, 5);
    }

    /** Deep water in the row 3 shuts the ways that begin upwards. */
    private static void callersTakeTheFirstDirection() {
        int[] xs = {6, 6, 2, 2};
        int[] ys = {2, 6, 6, 2};
        int[] dueX = {4, 5, 4, 4};
        int[] dueY = {3, 4, 5, 3};
        for (int side = 0; side < 4; side++) {
            FloodWardens w = Lake.withBellAt01();
            w.settle(xs[side], ys[side], 1);
            w.addCaller(4, 4);
            w.pass(1);
            callerIsAt(w, "to " + xs[side] + ", " + ys[side], 0, dueX[side], dueY[side]);
        }
        FloodWardens shut = Lake.inRow(3, 0, 0, 0, 3, 3, 0, 0, 0, 0, 0);
        shut.addGauge(4, 3, 3);
        shut.settle(6, 1, 1);
        shut.settle(1, 1, 1);
        shut.addCaller(4, 4);
        shut.addCaller(2, 4);
        shut.pass(1);
        callerIsAt(shut, "up is shut: to the right", 0, 5, 4);
        callerIsAt(shut, "up is open", 1, 2, 3);
    }

    private static void callersGoThrough2OfWaterAndNot3() {
        FloodWardens gap = Lake.inRow(3, 3, 3, 3, 3, 3, 3, 3, 3, 3, 2);
        gap.addGauge(0, 3, 1);
        gap.settle(0, 2, 1);
        gap.addCaller(0, 4);
        gap.pass(1);
        callerIsAt(gap, "to the gap", 0, 1, 4);
        gap.pass(9);
        callerIsAt(gap, "in the gap", 0, 9, 3);
        gap.pass(8);
        callerIsAt(gap, "on the other side", 0, 2, 2);
        isAt(gap, "at home as yet", 0, 0, 2, HOME);
        gap.pass(1);
        callerIsAt(gap, "beside it", 0, 1, 2);
        isAt(gap, "warned", 0, 0, 2, WAY);

        FloodWardens wall = Lake.inRow(3, 3, 3, 3, 3, 3, 3, 3, 3, 3, 3);
        wall.addGauge(0, 3, 1);
        wall.settle(0, 2, 1);
        wall.addCaller(0, 4);
        wall.pass(1);
        callerIsAt(wall, "there is no gap", 0, 0, 4);
        wall.settle(9, 7, 1);
        wall.pass(1);
        callerIsAt(wall, "to the one who can be reached", 0, 1, 4);
    }

    private static void callersInDeepWater() {
        FloodWardens w = Lake.inRow(3, 5, 5, 5, 5, 5, 5, 5, 5, 5, 5);
        w.addGauge(0, 3, 5);
        w.settle(4, 1, 6);
        w.settle(9, 3, 6);
        w.settle(6, 3, 6);
        w.addCaller(4, 3);
        w.addCaller(9, 3);
        w.addCaller(7, 3);
        w.pass(1);
        callerIsAt(w, "out of it", 0, 4, 2);
        callerIsAt(w, "0 steps in it", 1, 9, 3);
        Due.same("warned by the second", w.caller(1, 2), 1);
        callerIsAt(w, "nobody is left to be reached", 2, 7, 3);
        isAt(w, "a neighbour is warned all the same", 2, 6, 3, WAY);
        Due.same("warned by the third", w.caller(2, 2), 1);
    }

    private static void callersCountHouseholdsOnce() {
        FloodWardens w = Lake.withBellAt01();
        for (int household = 0; household < 10; household++) {
            w.settle(4, 4, 6);
        }
        w.addCaller(4, 4);
        w.addCaller(4, 4);
        w.pass(2);
        Due.same("10 households, not 60 people, and not again in the next hour", w.caller(0, 2), 10);
        Due.same("they are on their way before the second comes", w.caller(1, 2), 0);
    }

    /** Each has his whole turn, so that who comes later does not look for those who are on their way by then. */
    private static void callersFromTheLeastNumberToTheLast() {
        FloodWardens w = Lake.withBellAt01();
        w.settle(4, 2, 1);
        w.settle(9, 7, 1);
        w.addCaller(4, 4);
        w.addCaller(4, 4);
        w.addCaller(4, 4);
        w.pass(1);
        callerIsAt(w, "the first goes to the nearest and warns there", 0, 4, 3);
        callerIsAt(w, "the second goes to the other", 1, 5, 4);
        callerIsAt(w, "the third, too", 2, 5, 4);
        Due.same("warned by the first", w.caller(0, 2), 1);
        Due.same("warned by the others", w.caller(1, 2) + w.caller(2, 2), 0);
    }

    private static void noCallersWarnNobody() {
        FloodWardens w = Lake.withBellAt01();
        w.settle(0, 1, 1);
        w.addRefuge(0, 1, 1);
        w.pass(5);
        isAt(w, "a board rings, but nobody comes", 0, 0, 1, HOME);
    }

    // ---- the households

    private static FloodWardens withCallerAt44() {
        FloodWardens w = Lake.withBellAt01();
        w.addCaller(4, 4);
        return w;
    }

    private static void householdsWithoutARefugeStay() {
        FloodWardens w = withCallerAt44();
        w.settle(4, 4, 2);
        w.pass(5);
        isAt(w, "there is none", 0, 4, 4, WAY);
        w.addRefuge(4, 6, 1);
        w.pass(1);
        isAt(w, "there is none with room for both", 0, 4, 4, WAY);
        w.addRefuge(4, 7, 2);
        w.pass(1);
        isAt(w, "there is one, 3 steps away", 0, 4, 5, WAY);
    }

    private static void householdsGoOnWhenNoBoardRings() {
        FloodWardens w = withCallerAt44();
        w.addRefuge(4, 7, 2);
        w.settle(4, 4, 2);
        w.settle(7, 4, 2);
        w.pass(1);
        w.addPump(0, 1, 5, 5);
        w.pass(1);
        Due.same("none rings", w.count(9), 0);
        isAt(w, "it goes on", 0, 4, 6, WAY);
        w.pass(1);
        isAt(w, "it is there", 0, 4, 7, SAFE);
        isAt(w, "not warned any more", 1, 7, 4, HOME);
    }

    private static void householdsEnterInTheHourOfTheWarning() {
        FloodWardens w = withCallerAt44();
        w.addRefuge(4, 4, 2);
        w.addRefuge(5, 4, 6);
        w.settle(4, 4, 2);
        w.settle(5, 4, 6);
        w.settle(4, 3, 1);
        w.settle(3, 4, 5);
        w.pass(1);
        isAt(w, "0 steps", 0, 4, 4, SAFE);
        isAt(w, "0 steps", 1, 5, 4, SAFE);
        isAt(w, "no room is left", 2, 4, 3, WAY);
        isAt(w, "no room is left", 3, 3, 4, WAY);
        w.addRefuge(4, 3, 1);
        w.addRefuge(3, 3, 5);
        w.pass(1);
        isAt(w, "0 steps", 2, 4, 3, SAFE);
        isAt(w, "1 step", 3, 3, 3, SAFE);
    }

    private static void householdsTakeTheSmallestNumber() {
        FloodWardens w = withCallerAt44();
        w.addRefuge(1, 4, 2);
        w.addRefuge(4, 7, 2);
        w.addRefuge(4, 1, 2);
        w.settle(4, 4, 2);
        w.pass(1);
        isAt(w, "3 steps to each of them: to the left", 0, 3, 4, WAY);
        FloodWardens nearer = withCallerAt44();
        nearer.addRefuge(1, 4, 2);
        nearer.addRefuge(4, 6, 2);
        nearer.settle(4, 4, 2);
        nearer.pass(1);
        isAt(nearer, "2 steps are fewer than 3", 0, 4, 5, WAY);
        FloodWardens room = withCallerAt44();
        room.addRefuge(4, 6, 1);
        room.addRefuge(1, 4, 2);
        room.settle(4, 4, 2);
        room.pass(1);
        isAt(room, "the nearer one has room for 1 alone", 0, 3, 4, WAY);
    }

    private static void householdsTakeTheLastOfFourRefuges() {
        FloodWardens w = withCallerAt44();
        w.addRefuge(4, 4, 1);
        w.addRefuge(3, 4, 1);
        w.addRefuge(0, 0, 6);
        w.addRefuge(4, 6, 12);
        for (int household = 0; household < 10; household++) {
            w.settle(4, 4, 2);
        }
        w.pass(2);
        for (int household = 0; household < 10; household++) {
            boolean inTheLast = household < 6;
            isAt(w, "in the last, or back for the one that is left", household, 4, inTheLast ? 6 : 4,
                    inTheLast ? SAFE : WAY);
        }
        Due.same("6 of 10 households are in it", w.refuge(3, 4), 6);
        w.pass(7);
        Due.same("one step to go, in the last hour of 8", w.household(6, 4), 1);
        w.pass(1);
        for (int household = 6; household < 10; household++) {
            boolean inTheFirstCorner = household < 9;
            isAt(w, "3 households fill it", household, inTheFirstCorner ? 0 : 1, 0, inTheFirstCorner ? SAFE : WAY);
        }
    }

    private static void householdsTakeTheFirstDirection() {
        int[] xs = {6, 6, 2, 2};
        int[] ys = {2, 6, 6, 2};
        int[] dueX = {4, 5, 4, 4};
        int[] dueY = {3, 4, 5, 3};
        for (int side = 0; side < 4; side++) {
            FloodWardens w = withCallerAt44();
            w.addRefuge(xs[side], ys[side], 2);
            w.settle(4, 4, 2);
            w.pass(1);
            isAt(w, "to " + xs[side] + ", " + ys[side], 0, dueX[side], dueY[side], WAY);
        }
    }

    private static void householdsGoThrough2OfWaterAndNot3() {
        FloodWardens gap = Lake.inRow(3, 3, 3, 3, 3, 2, 3, 3, 3, 3, 3);
        gap.addGauge(0, 3, 1);
        gap.addRefuge(4, 2, 2);
        gap.settle(4, 4, 2);
        gap.addCaller(4, 4);
        gap.pass(1);
        isAt(gap, "into 2 of water", 0, 4, 3, WAY);
        gap.pass(1);
        isAt(gap, "and through it", 0, 4, 2, SAFE);
        FloodWardens wall = Lake.inRow(3, 3, 3, 3, 3, 3, 3, 3, 3, 3, 3);
        wall.addGauge(0, 3, 1);
        wall.addRefuge(4, 2, 2);
        wall.settle(4, 4, 2);
        wall.addCaller(4, 4);
        wall.pass(3);
        isAt(wall, "not into 3 of water", 0, 4, 4, WAY);
    }

    private static void householdsPassByAFullRefuge() {
        FloodWardens w = withCallerAt44();
        w.addRefuge(4, 4, 1);
        w.addRefuge(4, 6, 2);
        w.settle(4, 4, 2);
        w.settle(4, 3, 2);
        w.pass(1);
        isAt(w, "out of a cell with too little room", 0, 4, 5, WAY);
        isAt(w, "into a cell with too little room", 1, 4, 4, WAY);
        w.pass(1);
        isAt(w, "where there is just enough", 0, 4, 6, SAFE);
        isAt(w, "nothing is left", 1, 4, 4, WAY);
        Due.same("nobody is in the first", w.refuge(0, 3) + w.refuge(0, 4), 0);
    }

    private static void householdsTakeTheLastRoomByTheirNumbers() {
        FloodWardens w = withCallerAt44();
        w.addRefuge(4, 4, 3);
        w.settle(4, 3, 2);
        w.settle(4, 4, 2);
        w.settle(4, 4, 1);
        w.pass(1);
        isAt(w, "the first, from beside it", 0, 4, 4, SAFE);
        isAt(w, "2 are too many for what is left, though they were there before", 1, 4, 4, WAY);
        isAt(w, "1 is not", 2, 4, 4, SAFE);

        FloodWardens nearer = withCallerAt44();
        nearer.addRefuge(4, 5, 3);
        nearer.addRefuge(9, 4, 2);
        nearer.settle(4, 3, 2);
        nearer.settle(4, 4, 2);
        nearer.pass(1);
        isAt(nearer, "a step is left", 0, 4, 4, WAY);
        isAt(nearer, "the second is in it", 1, 4, 5, SAFE);
        nearer.pass(1);
        isAt(nearer, "the first must look for another one", 0, 5, 4, WAY);
    }

    private static void householdsInARefugeUnderWater() {
        FloodWardens w = Lake.inRow(3, 0, 0, 0, 0, 3, 0, 0, 0, 0, 0);
        w.addGauge(4, 3, 3);
        w.addRefuge(4, 3, 9);
        w.settle(4, 3, 2);
        w.settle(4, 4, 2);
        w.settle(3, 3, 2);
        w.addCaller(4, 4);
        w.addCaller(3, 3);
        w.pass(3);
        isAt(w, "0 steps are a way", 0, 4, 3, SAFE);
        isAt(w, "there is no way into it", 1, 4, 4, WAY);
        isAt(w, "not from the side either", 2, 3, 3, WAY);
    }

    /** Room for 1, and 2 people, of whom the deep water leaves 1. */
    private static void householdsShrinkUntilThereIsRoom() {
        FloodWardens w = Lake.inRow(3, 0, 0, 0, 0, 5, 0, 0, 0, 0, 0);
        w.addGauge(4, 3, 5);
        w.addRefuge(4, 3, 1);
        w.settle(4, 3, 2);
        w.addCaller(4, 3);
        Due.same("no room for both", w.household(0, 4), -1);
        Due.same("one is lost", w.pass(1), 1);
        isAt(w, "no room for both before", 0, 4, 3, WAY);
        Due.same("room for one", w.household(0, 4), 0);
        Due.same("in it ahead of the water", w.pass(1), 0);
        isAt(w, "in it", 0, 4, 3, SAFE);
        Due.same("people in it", w.refuge(0, 3), 1);
    }

    // ---- who is lost

    private static void lostIn5OfWaterAndNot4() {
        FloodWardens w = Lake.inRow(3, 0, 1, 2, 3, 4, 5, 0, 0, 0, 0);
        for (int household = 0; household < 6; household++) {
            w.settle(household, 3, 2);
        }
        Due.same("one in 5 of water", w.pass(1), 1);
        for (int household = 0; household < 6; household++) {
            Due.same("people in " + household + " of water", w.household(household, 2), household < 5 ? 2 : 1);
            isAt(w, "at home as before", household, household, 3, HOME);
        }
    }

    private static void lostOneByOne() {
        FloodWardens w = Lake.inRow(3, 5, 0, 0, 0, 0, 0, 0, 0, 0, 0);
        w.settle(0, 3, 6);
        w.settle(0, 3, 1);
        for (int hour = 1; hour <= 6; hour++) {
            Due.same("in the hour " + hour, w.pass(1), hour == 1 ? 2 : 1);
            Due.same("people", w.household(0, 2), 6 - hour);
            isAt(w, "behind hour " + hour, 0, 0, 3, hour < 6 ? HOME : LOST);
            isAt(w, "behind hour " + hour, 1, 0, 3, LOST);
        }
        Due.same("no more", w.pass(1), 0);
        Due.same("nobody, and not less", w.household(0, 2), 0);
        Due.same("lost in all", w.count(5), 7);
    }

    private static void lostOnTheirWay() {
        FloodWardens w = Lake.inRow(3, 5, 4, 0, 0, 0, 0, 0, 0, 0, 0);
        w.addGauge(0, 3, 5);
        w.settle(0, 3, 2);
        w.settle(1, 3, 2);
        w.addCaller(0, 3);
        Due.same("in 5 of water", w.pass(1), 1);
        isAt(w, "in 5 of water", 0, 0, 3, WAY);
        isAt(w, "in 4 of water", 1, 1, 3, WAY);
        Due.same("the last", w.pass(1), 1);
        isAt(w, "in 5 of water", 0, 0, 3, LOST);
        Due.same("people on their way", w.count(3), 2);
    }

    private static void lostNobodyInARefuge() {
        FloodWardens w = Lake.inRow(3, 5, 0, 0, 0, 0, 0, 0, 0, 0, 0);
        w.addGauge(0, 3, 5);
        w.addRefuge(0, 3, 20);
        w.settle(0, 3, 2);
        w.addCaller(0, 3);
        Due.same("in a refuge in 5 of water", w.pass(36), 0);
        Due.same("people", w.household(0, 2), 2);
        Due.same("people in refuges", w.count(4), 2);
    }

    private static void lostNobodyWhoWalksOutInTime() {
        FloodWardens w = Lake.inRow(3, 5, 5, 5, 5, 5, 5, 5, 5, 5, 5);
        w.addGauge(0, 3, 5);
        w.addRefuge(4, 6, 20);
        w.settle(4, 3, 2);
        w.settle(9, 3, 2);
        w.addCaller(4, 3);
        Due.same("the one who is not warned", w.pass(1), 1);
        isAt(w, "out of it", 0, 4, 4, WAY);
        Due.same("people of the one who is", w.household(0, 2), 2);
    }

    private static void lostAreWarnedNoMore() {
        FloodWardens w = Lake.inRow(3, 5, 0, 0, 0, 0, 0, 0, 0, 0, 0);
        w.addGauge(0, 3, 5);
        w.addRefuge(0, 5, 20);
        w.settle(0, 3, 1);
        w.pass(1);
        w.addCaller(0, 4);
        w.pass(3);
        isAt(w, "where it was lost", 0, 0, 3, LOST);
        Due.same("nobody is warned", w.caller(0, 2), 0);
        callerIsAt(w, "nobody is looked for", 0, 0, 4);
    }

    // ---- the hour

    private static void hoursAreCounted() {
        FloodWardens w = new FloodWardens();
        for (int hour = 1; hour <= 200; hour++) {
            w.pass(1);
            Due.same("the hour", w.count(0), hour);
        }
    }
}
