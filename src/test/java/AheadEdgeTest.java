/** The edges of promises 19 to 22, and of the 512 calls that an object is used for. */
public final class AheadEdgeTest {
    private static final int MIN = Integer.MIN_VALUE;
    private static final int MAX = Integer.MAX_VALUE;

    public static void main(String[] args) {
        foreseeFrom1To36();
        foreseeRefusesOtherHours();
        foreseeRefusesOtherFacts();
        foreseeOfNothing();
        foreseeLeavesOutWhoIsLostBefore();
        foreseeCountsWhoIsSafeBefore();
        foreseeCountsNotTheRiver();
        foreseeFuelOf5Pumps();
        ringsOfEachOf4Boards();
        ringsAndBoardsThatAreNotThere();
        ringsNowThoughNotLater();
        ringsByTheWaterBehindThePumps();
        ringsBehind48HoursAndNot49();
        adviseFrom1To6();
        adviseRefusesOtherHours();
        adviseOfEachX();
        adviseOfTheLeastX();
        adviseOfTheBestX();
        adviseOfTheRowY1Alone();
        adviseWhereThereAreLessThan5();
        adviseWhereThereAre40InTheTown();
        adviseWhenItIsLessByNone();
        adviseByTheWaterBehindThePumps();
        adviseByTheHours();
        lookingAheadChangesNothing();
        shareOfNobody();
        shareOfTheLost();
        shareOfTheSafe();
        shareByPeople();
        the512thCall();
        Due.end();
    }

    // ---- Promise 19

    private static void foreseeFrom1To36() {
        for (Towns town : Towns.values()) {
            for (int hours = 1; hours <= 36; hours++) {
                FloodWardens w = town.make();
                int[] foreseen = new int[4];
                for (int what = 0; what < 4; what++) {
                    foreseen[what] = w.foresee(hours, what);
                }
                String told = town + ", " + hours + " hours: ";
                Due.same(told + "lost in them", foreseen[1], w.pass(hours));
                Due.same(told + "in refuges", foreseen[0], w.count(4));
                Due.same(told + "cells with water", foreseen[2], w.count(6));
                Due.same(told + "fuel", foreseen[3], fuelOf(w));
            }
        }
    }

    private static int fuelOf(FloodWardens w) {
        int fuel = 0;
        for (int pump = 0; pump < 5; pump++) {
            String told = Call.PUMP.on(w, pump, 3);
            fuel += told.endsWith("Exception") ? 0 : Integer.parseInt(told);
        }
        return fuel;
    }

    private static void foreseeRefusesOtherHours() {
        for (int hours : new int[] {0, 37, -1, MIN, MAX}) {
            for (int what : new int[] {0, 3, 4, -1, MAX}) {
                Seen.badArgument(Call.FORESEE, hours, what);
            }
        }
    }

    private static void foreseeRefusesOtherFacts() {
        for (int what : new int[] {-1, 4, MIN, MAX}) {
            Seen.outOfBounds(Call.FORESEE, 1, what);
            Seen.outOfBounds(Call.FORESEE, 36, what);
        }
    }

    private static void foreseeOfNothing() {
        for (int what = 0; what < 4; what++) {
            Due.same("foresee(1, " + what + ")", new FloodWardens().foresee(1, what), 0);
            Due.same("foresee(36, " + what + ")", new FloodWardens().foresee(36, what), 0);
        }
    }

    private static void foreseeLeavesOutWhoIsLostBefore() {
        FloodWardens w = Lake.inRow(3, 5, 0, 0, 0, 0, 0, 0, 0, 0, 0);
        w.settle(0, 3, 6);
        w.pass(2);
        Due.same("lost before", w.count(5), 2);
        Due.same("foresee(1, 1)", w.foresee(1, 1), 1);
        Due.same("foresee(3, 1)", w.foresee(3, 1), 3);
        Due.same("foresee(4, 1)", w.foresee(4, 1), 4);
        Due.same("foresee(5, 1): no more than there are", w.foresee(5, 1), 4);
    }

    private static void foreseeCountsWhoIsSafeBefore() {
        FloodWardens w = Lake.withBellAt01();
        w.addRefuge(4, 4, 6);
        w.settle(4, 4, 2);
        w.settle(4, 3, 3);
        w.settle(4, 6, 1);
        w.addCaller(4, 4);
        Due.same("two of them behind an hour", w.foresee(1, 0), 5);
        w.pass(1);
        Due.same("they are in it", w.count(4), 5);
        Due.same("the third is beside the caller then", w.foresee(1, 0), 5);
        Due.same("and in it an hour later", w.foresee(2, 0), 6);
    }

    private static void foreseeCountsNotTheRiver() {
        FloodWardens w = new FloodWardens();
        w.setRiver(0, 4);
        for (int x = 0; x < 9; x++) {
            w.setGround(x, 1, 9);
        }
        Due.same("the river has 10 cells, and one street is wet", w.foresee(1, 2), 1);
        w.setGround(9, 1, 9);
        Due.same("none is wet", w.foresee(1, 2), 0);
    }

    private static void foreseeFuelOf5Pumps() {
        FloodWardens w = Lake.inRow(3, 5, 5, 0, 5, 0, 0, 0, 0, 0, 0);
        w.addPump(0, 3, 1, 30);
        w.addPump(1, 3, 1, 30);
        w.addPump(2, 3, 1, 30);
        w.addPump(3, 3, 5, 0);
        w.addPump(9, 7, 5, 30);
        w.run(1);
        Due.same("one runs over water with fuel", w.foresee(1, 3), 119);
        w.run(1);
        Due.same("two do", w.foresee(1, 3), 118);
        Due.same("with what is there now", fuelOf(w), 120);
    }

    // ---- Promise 20

    private static void ringsOfEachOf4Boards() {
        FloodWardens w = new FloodWardens();
        for (int gauge = 0; gauge < 4; gauge++) {
            w.setRiver(2 * gauge, 2 + 2 * gauge);
            w.addGauge(gauge, 1, 1 + gauge);
        }
        for (int gauge = 0; gauge < 4; gauge++) {
            Due.same("rings(" + gauge + ")", w.rings(gauge), 2 * gauge + 1);
        }
        w.pass(1);
        for (int gauge = 0; gauge < 4; gauge++) {
            Due.same("rings(" + gauge + ") an hour later", w.rings(gauge), 2 * gauge);
        }
    }

    private static void ringsAndBoardsThatAreNotThere() {
        for (int gauge : new int[] {-1, 4, MIN, MAX}) {
            Seen.outOfBounds(Call.RINGS, gauge);
        }
        Seen.outOfBoundsIn(Towns.EMPTY, Call.RINGS, 0);
        Seen.outOfBoundsIn(Towns.LIVED_IN, Call.RINGS, 2);
    }

    private static void ringsNowThoughNotLater() {
        FloodWardens w = Lake.inRow(3, 5, 0, 0, 0, 0, 0, 0, 0, 0, 0);
        w.addPump(0, 3, 1, 30);
        w.addGauge(0, 3, 5);
        Due.same("5 of water now", w.rings(0), 0);
        w.pass(1);
        Due.same("4 of water", w.gauge(0, 3), 4);
        Due.same("less and less of it", w.rings(0), -1);
    }

    private static void ringsByTheWaterBehindThePumps() {
        FloodWardens w = new FloodWardens();
        w.setRiver(0, 8);
        w.addGauge(4, 1, 4);
        w.addGauge(6, 1, 3);
        w.addPump(4, 1, 1, 30);
        w.addPump(6, 1, 1, 30);
        Due.same("3 of 4 is less than 4", w.rings(0), -1);
        Due.same("3 of 4 is as much as 3", w.rings(1), 1);
    }

    /** The cell 0, 1 gets 4 of water in the hours 11, 23, 35 and so on, and a pump takes it as long as it has fuel. */
    private static void ringsBehind48HoursAndNot49() {
        int[] due = {12, 24, 36, 48, -1};
        for (int fuel = 0; fuel < 5; fuel++) {
            FloodWardens w = new FloodWardens();
            w.setRiver(11, 8);
            w.addGauge(0, 1, 4);
            w.addPump(0, 1, 5, fuel);
            Due.same("with " + fuel + " of fuel", w.rings(0), due[fuel]);
        }
        FloodWardens w = new FloodWardens();
        w.setRiver(11, 8);
        w.addGauge(0, 1, 4);
        w.addPump(0, 1, 5, 4);
        w.pass(11);
        Due.same("49 hours before", w.rings(0), -1);
        w.pass(1);
        Due.same("48 hours before", w.rings(0), 48);
        w.pass(36);
        w.pass(11);
        Due.same("an hour before", w.rings(0), 1);
        w.pass(1);
        Due.same("now", w.rings(0), 0);
    }

    // ---- Promise 21

    /** The river is 8 high now, and the streets beside it are too high for it, unless a test lowers them. */
    private static FloodWardens behindHighStreets() {
        FloodWardens w = new FloodWardens();
        w.setRiver(0, 8);
        for (int x = 0; x < 10; x++) {
            w.setGround(x, 1, 9);
        }
        return w;
    }

    private static void adviseFrom1To6() {
        for (int hours = 1; hours <= 6; hours++) {
            FloodWardens w = new FloodWardens();
            w.setRiver(hours - 1, 8);
            w.setGround(0, 1, 9);
            Due.same("the river comes in the last hour", w.advise(hours), 1);
            if (hours > 1) {
                Due.same("and not before", w.advise(hours - 1), -1);
            }
        }
    }

    private static void adviseRefusesOtherHours() {
        for (int hours : new int[] {0, 7, -1, 36, MIN, MAX}) {
            Seen.badArgument(Call.ADVISE, hours);
        }
    }

    private static void adviseOfEachX() {
        for (int x = 0; x < 10; x++) {
            FloodWardens w = behindHighStreets();
            w.setGround(x, 1, 2);
            Due.same("it is less in one cell alone", w.advise(1), x);
        }
    }

    private static void adviseOfTheLeastX() {
        for (int x = 0; x < 9; x++) {
            FloodWardens w = behindHighStreets();
            for (int other = x; other < 10; other++) {
                w.setGround(other, 1, 2);
            }
            Due.same("all are the same from " + x + " on", w.advise(1), x);
        }
        FloodWardens two = behindHighStreets();
        two.setGround(3, 1, 2);
        two.setGround(9, 1, 4);
        Due.same("1 less in either", two.advise(1), 3);
    }

    /** From the high cell 7, 0 the water goes to 7, 1, as long as 8, 0 is not as low. */
    private static void adviseOfTheBestX() {
        FloodWardens w = behindHighStreets();
        w.setGround(2, 1, 2);
        w.setGround(7, 1, 8);
        w.setGround(7, 0, 9);
        w.setGround(8, 0, 1);
        Due.same("1 less at 2, 4 less at 7", w.advise(1), 7);
        w.setGround(8, 0, 2);
        w.setGround(7, 0, 2);
        Due.same("1 less at 2, 1 less at 7", w.advise(1), 2);
    }

    /** A sandbag in the row y 2 would have the water of x, 1 go back into the river; none in the row y 1 does so. */
    private static void adviseOfTheRowY1Alone() {
        for (int x = 0; x < 10; x++) {
            int[] water = new int[10];
            water[x] = 4;
            FloodWardens w = Lake.inRow(1, water);
            for (int other = 0; other < 10; other++) {
                w.setGround(other, 1, other == x ? 5 : 9);
            }
            w.setGround(x, 0, 5);
            w.setGround(x, 2, 4);
            Due.same("4 of water at 9 beside 5 and 4", w.advise(1), -1);
            w.lay(x, 2, 1);
            w.pass(1);
            Due.same("2 of 4 in the river, by a sandbag in " + x + ", 2", w.count(7), 2);
        }
    }

    private static void adviseWhereThereAreLessThan5() {
        int[] ground = {2, 1, 2, 1, 0, 1};
        for (int bags = 0; bags <= 5; bags++) {
            FloodWardens w = behindHighStreets();
            w.setGround(6, 1, ground[bags]);
            w.lay(6, 1, bags);
            Due.same("with " + bags + " there", w.advise(1), bags < 5 ? 6 : -1);
        }
    }

    private static void adviseWhereThereAre40InTheTown() {
        FloodWardens w = behindHighStreets();
        w.setGround(6, 1, 0);
        w.lay(6, 1, 4);
        for (int x = 0; x < 7; x++) {
            w.lay(x, 7, 5);
        }
        w.lay(7, 7, 1);
        Due.same("40 in the town", w.count(8), 40);
        Due.badState("41", w, () -> w.lay(6, 1, 5));
        Due.same("however many there are in the town", w.advise(1), 6);
        Due.same("and so many there are as before", w.count(8), 40);
    }

    private static void adviseWhenItIsLessByNone() {
        Due.same("no water at all", new FloodWardens().advise(1), -1);
        Due.same("none in the streets", behindHighStreets().advise(6), -1);
        FloodWardens odd = new FloodWardens();
        odd.setRiver(0, 7);
        Due.same("half of 6 is half of 7", odd.advise(1), -1);
        FloodWardens far = Lake.inRow(5, 5, 5, 5, 5, 5, 5, 5, 5, 5, 5);
        Due.same("water far from the row y 1", far.advise(6), -1);
    }

    private static void adviseByTheWaterBehindThePumps() {
        FloodWardens all = behindHighStreets();
        all.setGround(6, 1, 2);
        all.addPump(6, 1, 4, 1);
        Due.same("a pump takes all that comes", all.advise(1), -1);
        FloodWardens some = behindHighStreets();
        some.setGround(6, 1, 2);
        some.addPump(6, 1, 3, 1);
        Due.same("a pump takes 3 of 4", some.advise(1), 6);
    }

    private static void adviseByTheHours() {
        FloodWardens w = behindHighStreets();
        w.setGround(6, 1, 1);
        Due.same("half of 9 is half of 8", w.advise(1), -1);
        Due.same("then half of 3 goes back into the river, or half of 4", w.advise(2), 6);
    }

    private static void lookingAheadChangesNothing() {
        for (Towns town : Towns.values()) {
            Seen.onlyLooks(town, Call.FORESEE, 36, 0);
            Seen.onlyLooks(town, Call.FORESEE, 1, 3);
            Seen.onlyLooks(town, Call.RINGS, 0);
            Seen.onlyLooks(town, Call.ADVISE, 6);
            Seen.onlyLooks(town, Call.ADVISE, 1);
        }
    }

    // ---- Promise 22

    private static void shareOfNobody() {
        FloodWardens w = new FloodWardens();
        Due.sameShare("nobody", w.share(), 0.0);
        w.addRefuge(0, 0, 20);
        Due.sameShare("a refuge without anybody", w.share(), 0.0);
        w.settle(4, 4, 1);
        Due.sameShare("one at home", w.share(), 0.0);
    }

    private static void shareOfTheLost() {
        FloodWardens w = Lake.inRow(3, 5, 0, 0, 0, 0, 0, 0, 0, 0, 0);
        w.settle(0, 3, 1);
        w.pass(1);
        Due.same("lost", w.count(5), 1);
        Due.sameShare("none that is not lost", w.share(), 0.0);
    }

    private static void shareOfTheSafe() {
        FloodWardens w = Lake.withBellAt01();
        w.addRefuge(4, 4, 20);
        w.settle(4, 4, 6);
        w.settle(4, 4, 1);
        w.addCaller(4, 4);
        w.pass(1);
        Due.sameShare("all", w.share(), 1.0);
        FloodWardens one = Lake.withBellAt01();
        one.addRefuge(4, 4, 1);
        one.settle(4, 4, 1);
        one.addCaller(4, 4);
        Due.sameShare("the only one, at home", one.share(), 0.0);
        one.pass(1);
        Due.sameShare("the only one, safe", one.share(), 1.0);
    }

    private static void shareByPeople() {
        FloodWardens w = Lake.inRow(3, 5, 0, 0, 0, 0, 0, 0, 0, 0, 0);
        w.addGauge(0, 3, 5);
        w.addRefuge(4, 5, 1);
        w.settle(4, 5, 1);
        w.settle(4, 5, 2);
        w.settle(0, 3, 6);
        w.settle(0, 3, 1);
        w.addCaller(4, 5);
        w.pass(1);
        Due.same("on their way", w.count(3), 2);
        Due.same("at home", w.count(2), 5);
        Due.same("lost", w.count(5), 2);
        Due.sameShare("1 in a refuge of 8", w.share(), 1 / 8.0);
        w.pass(1);
        Due.sameShare("1 in a refuge of 7", w.share(), 1 / 7.0);
    }

    // ---- the calls that an object is used for

    private static void the512thCall() {
        FloodWardens w = new FloodWardens();
        for (int calls = 0; calls < 511; calls++) {
            w.pass(36);
        }
        Due.same("the hour", w.count(0), 511 * 36);
        FloodWardens full = Towns.FULL.make();
        for (int calls = 0; calls < 450; calls++) {
            full.pass(36);
        }
        Due.same("the hour", full.count(0), 3 + 450 * 36);
        Due.same("nobody is gone without being lost",
                full.count(2) + full.count(3) + full.count(4) + full.count(5), 36);
    }
}
