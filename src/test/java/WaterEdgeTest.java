/** The edges of the points 1 to 3 of an hour: the river, the flowing and the pumps. */
public final class WaterEdgeTest {
    private static final int[] DX = {0, 1, 0, -1};
    private static final int[] DY = {-1, 0, 1, 0};

    public static void main(String[] args) {
        riverIsAllOfTheRowY0();
        riverIsAsTheTableTellsAndNoMore();
        flowsWhenLowerBy2();
        flowsAtMostTheWaterThatThereIs();
        flowsToTheFirstOfTheLowest();
        flowsToTheLowestOfAnyDirection();
        flowsNotWithoutWater();
        flowsNotOverTheSides();
        flowsNotOverTheEnds();
        flowsByWhatWasBefore();
        flowsOverSandbags();
        waterUpTo40();
        waterIsCutBehindAllFlowing();
        waterOfAFullCellBesideAnother();
        pumpsOfEachPowerOverEachWater();
        pumpsWithoutFuel();
        pumpsForThirtyHours();
        pumpsThatAreStopped();
        pumpsBehindTheFlowing();
        pumpsInTheRiver();
        Due.end();
    }

    private static void at(FloodWardens w, String when, int x, int y, int water) {
        Due.same(when + ": the water of " + x + ", " + y, w.cell(x, y, 2), water);
    }

    // ---- the river

    private static void riverIsAllOfTheRowY0() {
        FloodWardens w = new FloodWardens();
        w.setRiver(0, 9);
        for (int x = 0; x < 10; x++) {
            w.setGround(x, 1, 9);
            w.lay(x, 1, 3);
        }
        w.pass(1);
        for (int x = 0; x < 10; x++) {
            at(w, "the river", x, 0, 9);
            at(w, "the row below", x, 1, 0);
        }
    }

    private static void riverIsAsTheTableTellsAndNoMore() {
        FloodWardens w = new FloodWardens();
        w.setRiver(0, 12);
        w.setRiver(1, 1);
        w.pass(1);
        at(w, "half of it is left", 0, 0, 6);
        for (int x = 0; x < 10; x++) {
            w.setGround(x, 1, 0);
            w.setGround(x, 2, 9);
        }
        w.pass(1);
        at(w, "1 and what came back from 6 at a level of 6", 0, 0, 2);
        w.pass(1);
        at(w, "none and what came back from 5 at a level of 5", 9, 0, 1);
    }

    // ---- the flowing

    private static void flowsWhenLowerBy2() {
        FloodWardens w = new FloodWardens();
        w.setRiver(0, 4);
        int[] ground = {9, 7, 6, 5, 4, 3, 2, 1, 0, 6};
        int[] given = {0, 0, 0, 0, 1, 1, 2, 2, 3, 0};
        for (int x = 0; x < 10; x++) {
            w.setGround(x, 1, ground[x]);
        }
        w.pass(1);
        for (int x = 0; x < 10; x++) {
            at(w, "6 beside " + ground[x], x, 1, given[x]);
            at(w, "6 beside " + ground[x], x, 0, 4 - given[x]);
        }
    }

    private static void flowsAtMostTheWaterThatThereIs() {
        FloodWardens w = new FloodWardens();
        w.setRiver(0, 4);
        int[] ground = {4, 3, 2, 1, 0};
        int[] given = {3, 3, 4, 4, 4};
        for (int x = 0; x < 10; x++) {
            w.setGround(x, 0, 6);
            w.setGround(x, 1, ground[x % 5]);
        }
        w.pass(1);
        for (int x = 0; x < 10; x++) {
            at(w, "4 of water at 10 beside " + ground[x % 5], x, 1, given[x % 5]);
            at(w, "4 of water at 10 beside " + ground[x % 5], x, 0, 4 - given[x % 5]);
        }
    }

    /** 4 of water at the level 9 in the cell 5, 3, all around at 9, too; the test lowers what it wants. */
    private static FloodWardens wellAt53() {
        FloodWardens w = Lake.inRow(3, 0, 0, 0, 0, 0, 4, 0, 0, 0, 0);
        w.setGround(5, 3, 5);
        w.setGround(4, 3, 9);
        w.setGround(6, 3, 9);
        return w;
    }

    private static void flowsToTheFirstOfTheLowest() {
        for (int set = 1; set < 16; set++) {
            FloodWardens w = wellAt53();
            int first = -1;
            for (int direction = 3; direction >= 0; direction--) {
                if ((set >> direction) % 2 == 1) {
                    w.setGround(5 + DX[direction], 3 + DY[direction], 5);
                    first = direction;
                }
            }
            w.pass(1);
            at(w, "half of 4 away, directions " + set, 5, 3, 2);
            for (int direction = 0; direction < 4; direction++) {
                at(w, "directions " + set, 5 + DX[direction], 3 + DY[direction], direction == first ? 2 : 0);
            }
        }
    }

    private static void flowsToTheLowestOfAnyDirection() {
        for (int lowest = 0; lowest < 4; lowest++) {
            FloodWardens w = wellAt53();
            for (int direction = 0; direction < 4; direction++) {
                w.setGround(5 + DX[direction], 3 + DY[direction], direction == lowest ? 4 : 5);
            }
            w.pass(1);
            at(w, "half of 5, cut, away", 5, 3, 2);
            for (int direction = 0; direction < 4; direction++) {
                at(w, "lowest is " + lowest, 5 + DX[direction], 3 + DY[direction], direction == lowest ? 2 : 0);
            }
        }
    }

    private static void flowsNotWithoutWater() {
        FloodWardens w = Lake.inRow(3, 0, 0, 0, 0, 0, 5, 0, 0, 0, 0);
        w.lay(5, 2, 5);
        w.lay(4, 3, 5);
        w.pass(3);
        at(w, "14 without water beside 5", 5, 3, 5);
        Due.same("all the water", w.count(7), 5);
    }

    /** Right of x 9 there is no cell, and left of x 0; the nearest in a row of all cells would be much lower. */
    private static void flowsNotOverTheSides() {
        FloodWardens right = Lake.inRow(3, 0, 0, 0, 0, 0, 0, 0, 0, 0, 5);
        right.setGround(8, 3, 9);
        right.setGround(0, 3, 0);
        right.setGround(0, 4, 0);
        right.pass(1);
        at(right, "at the right side", 9, 3, 5);
        Due.same("all the water", right.count(7), 5);
        FloodWardens left = Lake.inRow(3, 5, 0, 0, 0, 0, 0, 0, 0, 0, 0);
        left.setGround(1, 3, 9);
        left.setGround(9, 3, 0);
        left.setGround(9, 2, 0);
        left.pass(1);
        at(left, "at the left side", 0, 3, 5);
        Due.same("all the water", left.count(7), 5);
    }

    private static void flowsNotOverTheEnds() {
        FloodWardens below = Lake.inRow(7, 0, 0, 0, 0, 0, 5, 0, 0, 0, 0);
        below.setGround(5, 0, 0);
        below.pass(1);
        at(below, "at the last row", 5, 7, 5);
        FloodWardens above = new FloodWardens();
        above.setRiver(0, 8);
        for (int x = 0; x < 10; x++) {
            above.setGround(x, 1, 9);
            above.setGround(x, 7, 0);
        }
        above.pass(1);
        at(above, "at the first row", 5, 0, 8);
        Due.same("nothing is in the streets", above.count(7), 0);
    }

    /** 4 of water at 13 beside 4 of water at 8 beside none at 0, from the left to the right and the other way. */
    private static void flowsByWhatWasBefore() {
        for (int side = -1; side <= 1; side += 2) {
            FloodWardens w = threeSteps(side);
            w.pass(1);
            at(w, "half of 5, cut, away", 5 - side, 3, 2);
            at(w, "2 came, and all 4 went", 5, 3, 2);
            at(w, "4 came", 5 + side, 3, 4);
        }
    }

    private static FloodWardens threeSteps(int side) {
        int[] water = new int[10];
        water[5 - side] = 4;
        water[5] = 4;
        FloodWardens w = Lake.inRow(3, water);
        for (int x = 0; x < 10; x++) {
            w.setGround(x, 3, 9);
        }
        w.setGround(5, 3, 4);
        w.setGround(5 + side, 3, 0);
        return w;
    }

    private static void flowsOverSandbags() {
        for (int bags = 0; bags <= 5; bags++) {
            FloodWardens w = new FloodWardens();
            w.setRiver(0, 7);
            w.lay(4, 1, bags);
            w.pass(1);
            at(w, "9 beside 2 and " + bags, 4, 1, (7 - bags) / 2);
        }
    }

    /** Around x 5 a row y has 26 - y of water then, a hill of 9 has 9 less, and the river has 12 at a level of 26. */
    private static FloodWardens fullTown(int hillX, int hillY) {
        FloodWardens w = new FloodWardens();
        for (int hour = 0; hour < 12; hour++) {
            w.setRiver(hour, 12);
        }
        for (int x = 0; x < 10; x++) {
            for (int y = 0; y < 8; y++) {
                w.setGround(x, y, y == 0 ? 9 : 0);
            }
        }
        for (int x = 1; x < 9; x++) {
            w.lay(x, 0, 5);
        }
        w.setGround(hillX, hillY, 9);
        for (int times = 0; times < 10; times++) {
            w.pass(36);
        }
        return w;
    }

    /** All but the cell 5, 2 is raised, so that all around it can flow into it; of the river's bags 5 are left. */
    private static FloodWardens fullTownAround52(int hillX, int hillY) {
        FloodWardens w = fullTown(hillX, hillY);
        for (int x = 1; x < 9; x++) {
            if (x != 5) {
                w.lay(x, 0, 0);
            }
        }
        for (int x = 0; x < 10; x++) {
            for (int y = 1; y < 8; y++) {
                w.setGround(x, y, x == 5 && y == 2 ? 0 : 9);
            }
        }
        return w;
    }

    /** 5 come from above and 4 from below; from the right and from the left as many as the ground there makes. */
    private static void waterUpTo40() {
        int[] groundToTheRight = {7, 7, 7, 9};
        int[] groundToTheLeft = {5, 7, 9, 9};
        int[] due = {38, 39, 40, 40};
        for (int number = 0; number < 4; number++) {
            FloodWardens w = fullTownAround52(0, 7);
            at(w, "before", 5, 2, 24);
            at(w, "before, above", 5, 1, 25);
            at(w, "before, to the right", 6, 2, 24);
            at(w, "before, below", 5, 3, 23);
            at(w, "before, to the left", 4, 2, 24);
            w.setGround(6, 2, groundToTheRight[number]);
            w.setGround(4, 2, groundToTheLeft[number]);
            w.pass(1);
            at(w, "24 and " + (14 + number) + " more", 5, 2, due[number]);
            at(w, "above, where 5 went", 5, 1, 20);
            at(w, "below, where 4 went", 5, 3, 19);
        }
    }

    /** 24 of water, 20 more come, and 4 go. */
    private static void waterIsCutBehindAllFlowing() {
        FloodWardens w = fullTownAround52(4, 2);
        at(w, "before", 5, 2, 24);
        at(w, "before, above", 5, 1, 25);
        at(w, "before, to the right", 6, 2, 24);
        at(w, "before, below", 5, 3, 23);
        at(w, "before, to the left", 4, 2, 15);
        w.setGround(4, 2, 0);
        w.lay(5, 1, 5);
        w.lay(6, 2, 5);
        w.lay(5, 3, 5);
        w.pass(1);
        at(w, "44 would be more than 40, but 4 went", 5, 2, 40);
        at(w, "half of 15 went", 5, 1, 18);
        at(w, "half of 14 went", 6, 2, 17);
        at(w, "half of 13 went", 5, 3, 17);
    }

    /** From 5, 2 with 40 of water 15 come into 6, 2, from above it 7, and 5 go, in whatever order they are counted. */
    private static void waterOfAFullCellBesideAnother() {
        FloodWardens w = fullTown(7, 2);
        fill52With40(w);
        at(w, "full", 5, 2, 40);
        at(w, "beside it", 6, 2, 24);
        at(w, "above that", 6, 1, 25);
        at(w, "on the hill", 7, 2, 14);
        w.lay(4, 2, 0);
        w.lay(5, 3, 0);
        w.setGround(5, 2, 9);
        w.lay(5, 2, 5);
        w.setGround(6, 1, 9);
        w.lay(6, 1, 5);
        w.setGround(7, 1, 9);
        w.setGround(7, 2, 0);
        w.pass(1);
        at(w, "24, 15 and 7 without 5", 6, 2, 40);
        at(w, "half of 30 went", 5, 2, 25);
        at(w, "half of 15 went", 6, 1, 18);
    }

    private static void fill52With40(FloodWardens w) {
        for (int x = 1; x < 4; x++) {
            w.lay(x, 0, 0);
        }
        w.lay(5, 1, 5);
        w.lay(4, 2, 5);
        w.lay(5, 3, 5);
        int[][] raised = {{5, 1}, {4, 2}, {5, 3}, {5, 4}, {4, 3}, {3, 2}};
        for (int[] cell : raised) {
            w.setGround(cell[0], cell[1], 9);
        }
        w.setGround(6, 3, 2);
        w.pass(1);
    }

    // ---- the pumps

    private static void pumpsOfEachPowerOverEachWater() {
        for (int water = 0; water <= 5; water++) {
            FloodWardens w = Lake.inRow(2, water, water, water, water, water, 0, 0, 0, 0, 0);
            for (int pump = 0; pump < 5; pump++) {
                w.addPump(pump, 2, pump + 1, 9);
            }
            w.pass(1);
            for (int pump = 0; pump < 5; pump++) {
                int taken = water < pump + 1 ? water : pump + 1;
                String told = "power " + (pump + 1) + " over " + water;
                at(w, told, pump, 2, water - taken);
                Due.same(told + ": taken", w.pump(pump, 5), taken);
                Due.same(told + ": fuel", w.pump(pump, 3), water == 0 ? 9 : 8);
            }
        }
    }

    private static void pumpsWithoutFuel() {
        FloodWardens w = Lake.inRow(2, 5, 0, 5, 0, 5, 0, 0, 0, 0, 0);
        w.addPump(0, 2, 1, 0);
        w.addPump(2, 2, 1, 1);
        w.addPump(4, 2, 1, 2);
        w.pass(2);
        at(w, "none", 0, 2, 5);
        at(w, "for one hour", 2, 2, 4);
        at(w, "for two hours", 4, 2, 3);
        for (int pump = 0; pump < 3; pump++) {
            Due.same("fuel of pump " + pump, w.pump(pump, 3), 0);
            Due.same("it runs all the same", w.pump(pump, 4), 1);
        }
    }

    private static void pumpsForThirtyHours() {
        FloodWardens w = new FloodWardens();
        for (int hour = 0; hour < 12; hour++) {
            w.setRiver(hour, 12);
        }
        w.addPump(5, 1, 1, 30);
        w.pass(29);
        Due.same("fuel behind 29 hours", w.pump(0, 3), 1);
        w.pass(1);
        Due.same("fuel behind 30 hours", w.pump(0, 3), 0);
        Due.same("taken behind 30 hours", w.pump(0, 5), 30);
        w.pass(1);
        Due.same("taken behind 31 hours", w.pump(0, 5), 30);
    }

    private static void pumpsThatAreStopped() {
        FloodWardens w = Lake.inRow(2, 5, 0, 0, 0, 0, 0, 0, 0, 0, 0);
        w.addPump(0, 2, 1, 9);
        w.run(0);
        w.pass(1);
        at(w, "stopped", 0, 2, 5);
        Due.same("its fuel", w.pump(0, 3), 9);
        w.run(0);
        w.pass(1);
        at(w, "running", 0, 2, 4);
        Due.same("its fuel", w.pump(0, 3), 8);
    }

    private static void pumpsBehindTheFlowing() {
        FloodWardens w = new FloodWardens();
        w.setRiver(0, 8);
        w.addPump(5, 1, 5, 1);
        w.addPump(4, 0, 5, 1);
        w.pass(1);
        Due.same("what came in this hour", w.pump(0, 5), 4);
        Due.same("what was left in this hour", w.pump(1, 5), 4);
        at(w, "half of 8 came, by 8 of water", 4, 1, 4);
    }

    private static void pumpsInTheRiver() {
        FloodWardens w = new FloodWardens();
        w.setRiver(0, 6);
        w.setRiver(1, 6);
        w.setGround(0, 1, 9);
        w.addPump(0, 0, 2, 30);
        w.pass(1);
        at(w, "6 without 2", 0, 0, 4);
        w.pass(1);
        at(w, "6 again without 2", 0, 0, 4);
        Due.same("taken", w.pump(0, 5), 4);
        w.pass(1);
        Due.same("no fuel where the river is dry", w.pump(0, 3), 28);
    }
}
