/** Promises 1 to 4: a new object, setGround, lay, setRiver. */
public final class TownTest {
    public static void main(String[] args) {
        newObject();
        setGround();
        setGroundRefused();
        lay();
        layRefused();
        setRiver();
        setRiverRefused();
        Due.end();
    }

    private static void newObject() {
        FloodWardens w = new FloodWardens();
        for (int what = 0; what < 10; what++) {
            Due.same("new: count(" + what + ")", w.count(what), 0);
        }
        int[] due = {2, 0, 0, 2, 0, 1};
        for (int y = 0; y < 8; y++) {
            for (int x = 0; x < 10; x++) {
                for (int what = 0; what < 6; what++) {
                    Due.same("new: cell(" + x + ", " + y + ", " + what + ")", w.cell(x, y, what), due[what]);
                }
            }
        }
        Due.outOfBounds("new: pump(0, 0)", w, () -> w.pump(0, 0));
        Due.outOfBounds("new: gauge(0, 0)", w, () -> w.gauge(0, 0));
        Due.outOfBounds("new: refuge(0, 0)", w, () -> w.refuge(0, 0));
        Due.outOfBounds("new: household(0, 0)", w, () -> w.household(0, 0));
        Due.outOfBounds("new: caller(0, 0)", w, () -> w.caller(0, 0));
        Due.same("new: pass(24)", w.pass(24), 0);
        Due.same("new: no river rises", w.count(7), 0);

        FloodWardens one = new FloodWardens();
        FloodWardens other = new FloodWardens();
        one.setGround(0, 0, 9);
        one.setRiver(0, 9);
        one.settle(0, 0, 1);
        Due.same("another object has its own ground", other.cell(0, 0, 0), 2);
        Due.same("another object has its own table", other.setRiver(0, 0), 0);
        Due.same("another object has its own households", other.count(1), 0);
    }

    private static void setGround() {
        FloodWardens w = new FloodWardens();
        Due.same("setGround(0, 0, 0)", w.setGround(0, 0, 0), 2);
        Due.same("setGround(9, 7, 9)", w.setGround(9, 7, 9), 2);
        Due.same("setGround(9, 7, 4)", w.setGround(9, 7, 4), 9);
        Due.same("cell(0, 0, 0)", w.cell(0, 0, 0), 0);
        Due.same("cell(9, 7, 0)", w.cell(9, 7, 0), 4);
        Due.same("cell(9, 7, 3)", w.cell(9, 7, 3), 4);
        w.setGround(3, 4, 7);
        Due.same("cell(3, 4, 0)", w.cell(3, 4, 0), 7);
        Due.same("cell(4, 3, 0)", w.cell(4, 3, 0), 2);
    }

    private static void setGroundRefused() {
        FloodWardens w = new FloodWardens();
        Due.outOfBounds("setGround(-1, 0, 1)", w, () -> w.setGround(-1, 0, 1));
        Due.outOfBounds("setGround(10, 0, 1)", w, () -> w.setGround(10, 0, 1));
        Due.outOfBounds("setGround(0, -1, 1)", w, () -> w.setGround(0, -1, 1));
        Due.outOfBounds("setGround(0, 8, 1)", w, () -> w.setGround(0, 8, 1));
        Due.outOfBounds("setGround(min, max, 1)", w, () -> w.setGround(Integer.MIN_VALUE, Integer.MAX_VALUE, 1));
        Due.outOfBounds("setGround(0, 214748365, 1)", w, () -> w.setGround(0, 214748365, 1));
        Due.outOfBounds("setGround(10, 0, 10)", w, () -> w.setGround(10, 0, 10));
        Due.badArgument("setGround(0, 0, -1)", w, () -> w.setGround(0, 0, -1));
        Due.badArgument("setGround(0, 0, 10)", w, () -> w.setGround(0, 0, 10));
    }

    private static void lay() {
        FloodWardens w = new FloodWardens();
        Due.same("lay(0, 1, 5)", w.lay(0, 1, 5), 5);
        Due.same("lay(1, 1, 3)", w.lay(1, 1, 3), 8);
        Due.same("lay(0, 1, 2)", w.lay(0, 1, 2), 5);
        Due.same("lay(1, 1, 0)", w.lay(1, 1, 0), 2);
        Due.same("lay(9, 7, 0)", w.lay(9, 7, 0), 2);
        Due.same("cell(0, 1, 1)", w.cell(0, 1, 1), 2);
        Due.same("cell(0, 1, 3)", w.cell(0, 1, 3), 4);
        Due.same("cell(1, 1, 1)", w.cell(1, 1, 1), 0);
        Due.same("count(8)", w.count(8), 2);
    }

    private static void layRefused() {
        FloodWardens w = new FloodWardens();
        for (int x = 0; x < 7; x++) {
            Due.same("lay(" + x + ", 0, 5)", w.lay(x, 0, 5), 5 * x + 5);
        }
        Due.same("lay(7, 0, 1)", w.lay(7, 0, 1), 36);
        Due.badState("lay(8, 0, 5): 41", w, () -> w.lay(8, 0, 5));
        Due.same("lay(8, 0, 4): 40", w.lay(8, 0, 4), 40);
        Due.badState("lay(7, 0, 2): 41", w, () -> w.lay(7, 0, 2));
        Due.same("lay(8, 0, 4) again", w.lay(8, 0, 4), 40);
        Due.same("lay(6, 0, 0)", w.lay(6, 0, 0), 35);
        Due.same("lay(7, 0, 5)", w.lay(7, 0, 5), 39);
        Due.badState("lay(9, 7, 2): 41", w, () -> w.lay(9, 7, 2));
        Due.outOfBounds("lay(-1, 0, 1)", w, () -> w.lay(-1, 0, 1));
        Due.outOfBounds("lay(10, 0, 5)", w, () -> w.lay(10, 0, 5));
        Due.outOfBounds("lay(0, -1, 6)", w, () -> w.lay(0, -1, 6));
        Due.outOfBounds("lay(0, 8, 1)", w, () -> w.lay(0, 8, 1));
        Due.badArgument("lay(0, 0, -1)", w, () -> w.lay(0, 0, -1));
        Due.badArgument("lay(9, 0, 6) before there are too many", w, () -> w.lay(9, 0, 6));
    }

    private static void setRiver() {
        FloodWardens w = new FloodWardens();
        for (int hour = 0; hour < 12; hour++) {
            Due.same("setRiver(" + hour + ", ..)", w.setRiver(hour, hour + 1), 0);
        }
        for (int hour = 0; hour < 12; hour++) {
            Due.same("setRiver(" + hour + ", 0)", w.setRiver(hour, 0), hour + 1);
        }
        w.setRiver(0, 12);
        Due.same("the river itself does not rise before the hour", w.cell(0, 0, 2), 0);
        Due.same("setRiver(0, 0)", w.setRiver(0, 0), 12);
    }

    private static void setRiverRefused() {
        FloodWardens w = new FloodWardens();
        Due.outOfBounds("setRiver(-1, 0)", w, () -> w.setRiver(-1, 0));
        Due.outOfBounds("setRiver(12, 0)", w, () -> w.setRiver(12, 0));
        Due.outOfBounds("setRiver(12, 13)", w, () -> w.setRiver(12, 13));
        Due.badArgument("setRiver(0, -1)", w, () -> w.setRiver(0, -1));
        Due.badArgument("setRiver(11, 13)", w, () -> w.setRiver(11, 13));
    }
}
