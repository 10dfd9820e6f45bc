/** Promises 1 to 23: many runs of calls, right and wrong ones, answered by the class and by the model. */
public final class ModelTest {
    private static final int RUNS = 250;
    private static final int CALLS = 160;
    private static final String[] NAMES = {"setGround", "lay", "setRiver", "addPump", "run", "addGauge", "addRefuge",
        "settle", "addCaller", "cell", "pump", "gauge", "refuge", "household", "caller", "count", "pass", "foresee",
        "rings", "advise", "digest"};
    private static final int[] WRONG = {-1, Integer.MIN_VALUE, Integer.MAX_VALUE, 10, 8, 6, 12, 41, 100};

    private static final Chance CHANCE = new Chance(20261119);

    public static void main(String[] args) {
        for (int run = 1; run <= RUNS; run++) {
            compareRun(run);
        }
        Due.end();
    }

    private static int below(int bound) {
        return CHANCE.below(bound);
    }

    private static int between(int least, int most) {
        return CHANCE.between(least, most);
    }

    private static int seldomWrong(int right) {
        return below(60) == 0 ? WRONG[below(WRONG.length)] : right;
    }

    private static void compareRun(int run) {
        FloodWardens w = new FloodWardens();
        Model m = new Model();
        int high = below(13);
        for (int hour = 0; hour < 12; hour++) {
            compare(run, w, m, new int[] {2, hour, below(3) == 0 ? 0 : between(high / 2, high), 0, 0});
        }
        for (int cells = below(3) * 60; cells > 0; cells--) {
            compare(run, w, m, new int[] {0, below(10), below(8), below(10), 0});
        }
        for (int calls = 0; calls < CALLS; calls++) {
            compare(run, w, m, nextCall(calls));
        }
        Due.sameShare("run " + run + ": share()", w.share(), m.share());
        Due.same("run " + run + ": digest()", w.digest(), m.digest());
    }

    /** Sets up most of what there is at first, and asks and lets hours pass then. */
    private static int[] nextCall(int calls) {
        int call = calls < 40 ? below(9) : below(4) == 0 ? below(9) : between(9, 20);
        int x = seldomWrong(below(10));
        int y = seldomWrong(below(8));
        int many = seldomWrong(below(6));
        switch (call) {
            case 0:
                return new int[] {call, x, y, seldomWrong(below(10)), 0};
            case 1:
                return new int[] {call, x, seldomWrong(below(3)), many, 0};
            case 2:
                return new int[] {call, seldomWrong(below(12)), seldomWrong(below(13)), 0, 0};
            case 3:
                return new int[] {call, x, y, seldomWrong(between(1, 5)), seldomWrong(below(31))};
            case 5:
                return new int[] {call, x, y, seldomWrong(1 + below(1 + below(20))), 0};
            case 6:
                return new int[] {call, x, y, seldomWrong(1 + below(1 + below(20))), 0};
            case 7:
                return new int[] {call, x, y, seldomWrong(between(1, 6)), 0};
            case 8:
                return new int[] {call, x, y, 0, 0};
            case 9:
                return new int[] {call, x, y, many, 0};
            case 13:
                return new int[] {call, below(10), below(5), 0, 0};
            case 15:
                return new int[] {call, seldomWrong(below(10)), 0, 0, 0};
            case 16:
                return new int[] {call, seldomWrong(1 + below(1 + below(12))), 0, 0, 0};
            case 17:
                return new int[] {call, seldomWrong(1 + below(36)), seldomWrong(below(4)), 0, 0};
            case 19:
                return new int[] {call, seldomWrong(between(1, 6)), 0, 0, 0};
            default:
                return new int[] {call, below(5), many, 0, 0};
        }
    }

    private static void compare(int run, FloodWardens w, Model m, int[] c) {
        String call = "run " + run + ": " + NAMES[c[0]] + "(" + c[1] + ", " + c[2] + ", " + c[3] + ", " + c[4] + ")";
        String got;
        String due;
        try {
            got = Long.toString(ofClass(w, c));
        } catch (RuntimeException thrown) {
            got = thrown.getClass().getName();
        }
        try {
            due = Long.toString(ofModel(m, c));
        } catch (RuntimeException thrown) {
            due = thrown.getClass().getName();
        }
        Due.holds(call + " is " + due + ", and not " + got, got.equals(due));
    }

    private static long ofClass(FloodWardens w, int[] c) {
        switch (c[0]) {
            case 0: return w.setGround(c[1], c[2], c[3]);
            case 1: return w.lay(c[1], c[2], c[3]);
            case 2: return w.setRiver(c[1], c[2]);
            case 3: return w.addPump(c[1], c[2], c[3], c[4]);
            case 4: return w.run(c[1]) ? 1 : 0;
            case 5: return w.addGauge(c[1], c[2], c[3]);
            case 6: return w.addRefuge(c[1], c[2], c[3]);
            case 7: return w.settle(c[1], c[2], c[3]);
            case 8: return w.addCaller(c[1], c[2]);
            case 9: return w.cell(c[1], c[2], c[3]);
            case 10: return w.pump(c[1], c[2]);
            case 11: return w.gauge(c[1], c[2]);
            case 12: return w.refuge(c[1], c[2]);
            case 13: return w.household(c[1], c[2]);
            case 14: return w.caller(c[1], c[2]);
            case 15: return w.count(c[1]);
            case 16: return w.pass(c[1]);
            case 17: return w.foresee(c[1], c[2]);
            case 18: return w.rings(c[1]);
            case 19: return w.advise(c[1]);
            default: return w.digest();
        }
    }

    private static long ofModel(Model m, int[] c) {
        switch (c[0]) {
            case 0: return m.setGround(c[1], c[2], c[3]);
            case 1: return m.lay(c[1], c[2], c[3]);
            case 2: return m.setRiver(c[1], c[2]);
            case 3: return m.addPump(c[1], c[2], c[3], c[4]);
            case 4: return m.run(c[1]);
            case 5: return m.addGauge(c[1], c[2], c[3]);
            case 6: return m.addRefuge(c[1], c[2], c[3]);
            case 7: return m.settle(c[1], c[2], c[3]);
            case 8: return m.addCaller(c[1], c[2]);
            case 9: return m.cell(c[1], c[2], c[3]);
            case 10: return m.pump(c[1], c[2]);
            case 11: return m.gauge(c[1], c[2]);
            case 12: return m.refuge(c[1], c[2]);
            case 13: return m.household(c[1], c[2]);
            case 14: return m.caller(c[1], c[2]);
            case 15: return m.count(c[1]);
            case 16: return m.pass(c[1]);
            case 17: return m.foresee(c[1], c[2]);
            case 18: return m.rings(c[1]);
            case 19: return m.advise(c[1]);
            default: return m.digest();
        }
    }
}
