/**
 * Towns with still water: one row of cells has 0 to 5 of water each, as a test wants it, and all else is dry, the
 * river, too, and stays so. The cells of that row have 5 as their level, all others 9 of ground.
 */
final class Lake {
    private Lake() {
    }

    /** The lake lies in the row y, 1 to 7, and the hour is y + 1 then. The most calls that it takes are 250. */
    static FloodWardens inRow(int y, int... water) {
        FloodWardens w = new FloodWardens();
        fillFirstRow(w, water);
        for (int row = 1; row < y; row++) {
            for (int x = 0; x < 10; x++) {
                w.setGround(x, row, 9);
                w.setGround(x, row + 1, 0);
            }
            w.pass(1);
        }
        for (int x = 0; x < 10; x++) {
            w.setGround(x, y, 5 - water[x]);
        }
        w.pass(1);
        return w;
    }

    /** The river stands 10 high for an hour, and each cell below it takes half of what it is lower. */
    private static void fillFirstRow(FloodWardens w, int... water) {
        w.setRiver(0, 10);
        for (int x = 0; x < 10; x++) {
            w.setGround(x, 0, 0);
            w.setGround(x, 1, water[x] == 0 ? 9 : 10 - 2 * water[x]);
            for (int row = 2; row < 8; row++) {
                w.setGround(x, row, 9);
            }
        }
        w.pass(1);
        w.setRiver(0, 0);
        for (int x = 0; x < 10; x++) {
            w.setGround(x, 0, 9);
        }
    }

    /** 1 of water in the cell 0, 1, where the board 0 rings from 1 on; the hour is 2. */
    static FloodWardens withBellAt01() {
        FloodWardens w = inRow(1, 1, 0, 0, 0, 0, 0, 0, 0, 0, 0);
        w.addGauge(0, 1, 1);
        return w;
    }
}
