/** Promises 19 to 22: foresee, rings, advise, share. */
public final class AheadTest {
    public static void main(String[] args) {
        foresee();
        foreseeFromLater();
        foreseeRefused();
        foreseeTellsWhatPasses();
        rings();
        ringsAtMost48();
        advise();
        adviseLooksAtFlow();
        adviseRefused();
        share();
        Due.end();
    }

    private static FloodWardens inDanger() {
        FloodWardens w = new FloodWardens();
        w.setRiver(0, 12);
        w.setRiver(1, 12);
        w.addGauge(0, 1, 1);
        w.addRefuge(5, 5, 3);
        w.addPump(0, 1, 2, 7);
        w.addPump(9, 7, 2, 30);
        w.addPump(9, 1, 2, 5);
        w.run(2);
        w.settle(5, 5, 3);
        w.settle(3, 1, 4);
        w.addCaller(5, 5);
        return w;
    }

    private static void foresee() {
        FloodWardens w = inDanger();
        long before = w.digest();
        Due.same("foresee(1, 0)", w.foresee(1, 0), 3);
        Due.same("foresee(1, 1)", w.foresee(1, 1), 1);
        Due.same("foresee(1, 2)", w.foresee(1, 2), 10);
        Due.same("foresee(1, 3): 6, 30, and 5 of the stopped one", w.foresee(1, 3), 41);
        Due.same("foresee(2, 1)", w.foresee(2, 1), 2);
        Due.same("foresee(2, 2)", w.foresee(2, 2), 20);
        Due.holds("nothing is changed", w.digest() == before);
        w.pass(1);
        Due.same("foresee(1, 1): what is lost before does not count", w.foresee(1, 1), 1);
        Due.same("foresee(1, 0)", w.foresee(1, 0), 3);
        Due.same("without anything", new FloodWardens().foresee(36, 0), 0);
    }

    /** What is so already counts ahead, too. */
    private static void foreseeFromLater() {
        FloodWardens w = new FloodWardens();
        w.setRiver(0, 2);
        w.addGauge(0, 1, 1);
        w.addRefuge(5, 5, 4);
        w.addRefuge(5, 7, 6);
        w.settle(5, 5, 3);
        w.addCaller(5, 5);
        w.pass(1);
        w.settle(5, 5, 2);
        Due.same("no room for 2 any more", w.foresee(1, 0), 3);
        Due.same("but in the other one", w.foresee(2, 0), 5);
        w.addPump(0, 1, 1, 5);
        w.run(0);
        Due.same("a stopped one keeps its fuel", w.foresee(1, 3), 5);
        w.run(0);
        Due.same("and not if it runs", w.foresee(1, 3), 4);
        w.setRiver(3, 8);
        Due.same("the river of the third hour from now", w.foresee(2, 2), 9);
        Due.same("comes in it", w.foresee(3, 2), 10);
    }

    private static void foreseeRefused() {
        FloodWardens w = inDanger();
        Due.badArgument("foresee(0, 0)", w, () -> w.foresee(0, 0));
        Due.badArgument("foresee(-1, 0)", w, () -> w.foresee(-1, 0));
        Due.badArgument("foresee(37, 0)", w, () -> w.foresee(37, 0));
        Due.badArgument("foresee(37, 4)", w, () -> w.foresee(37, 4));
        Due.outOfBounds("foresee(36, -1)", w, () -> w.foresee(36, -1));
        Due.outOfBounds("foresee(1, 4)", w, () -> w.foresee(1, 4));
    }

    private static void foreseeTellsWhatPasses() {
        for (int hours = 1; hours <= 36; hours++) {
            FloodWardens w = inDanger();
            int[] foreseen = new int[4];
            for (int what = 0; what < 4; what++) {
                foreseen[what] = w.foresee(hours, what);
            }
            Due.same("lost in " + hours + " hours", foreseen[1], w.pass(hours));
            Due.same("in refuges behind " + hours + " hours", foreseen[0], w.count(4));
            Due.same("wet cells behind " + hours + " hours", foreseen[2], w.count(6));
            Due.same("fuel behind " + hours + " hours", foreseen[3], w.pump(0, 3) + w.pump(1, 3) + w.pump(2, 3));
        }
    }

    private static void rings() {
        FloodWardens w = new FloodWardens();
        w.setRiver(3, 8);
        w.addGauge(2, 1, 4);
        w.addGauge(2, 1 + 1, 1);
        w.addGauge(4, 1, 4);
        w.addGauge(9, 7, 1);
        w.addPump(4, 1, 1, 1);
        w.addCaller(2, 1);
        w.settle(2, 4, 1);
        long before = w.digest();
        Due.same("rings(0)", w.rings(0), 4);
        Due.same("rings(1): back into the river goes all that could come", w.rings(1), -1);
        Due.same("rings(2): the pump has fuel for the first time alone", w.rings(2), 16);
        Due.same("rings(3)", w.rings(3), -1);
        Due.holds("nothing is changed", w.digest() == before);
        w.pass(3);
        Due.same("rings(0) an hour before", w.rings(0), 1);
        w.pass(1);
        Due.same("rings(0) now", w.rings(0), 0);
        w.pass(1);
        Due.same("rings(0) an hour later", w.rings(0), 11);
        Due.outOfBounds("rings(-1)", w, () -> w.rings(-1));
        Due.outOfBounds("rings(4)", w, () -> w.rings(4));
        Due.outOfBounds("rings(0) without boards", new FloodWardens(), () -> new FloodWardens().rings(0));
    }

    /** The far corner has 7 of water at the hour 57. */
    private static void ringsAtMost48() {
        FloodWardens w = new FloodWardens();
        for (int hour = 0; hour < 12; hour++) {
            w.setRiver(hour, 12);
        }
        for (int x = 0; x < 10; x++) {
            w.setGround(x, 7, 0);
        }
        w.addGauge(9, 7, 7);
        Due.same("57 hours before", w.rings(0), -1);
        w.pass(8);
        Due.same("49 hours before", w.rings(0), -1);
        w.pass(1);
        Due.same("48 hours before", w.rings(0), 48);
        w.pass(1);
        Due.same("47 hours before", w.rings(0), 47);
        w.pass(36);
        w.pass(10);
        Due.same("an hour before", w.gauge(0, 4), 0);
        w.pass(1);
        Due.same("it rings", w.gauge(0, 4), 1);
        Due.same("then it does now", w.rings(0), 0);
    }

    private static void advise() {
        FloodWardens w = new FloodWardens();
        w.setRiver(0, 8);
        long before = w.digest();
        Due.same("the same everywhere: the least x", w.advise(1), 0);
        Due.holds("nothing is changed", w.digest() == before);
        for (int x = 0; x < 4; x++) {
            w.setGround(x, 1, 9);
        }
        Due.same("where no water comes a bag holds off none", w.advise(1), 4);
        w.lay(4, 1, 5);
        w.setGround(4, 1, 3);
        Due.same("4 has 5 sandbags, though a sixth would hold off all", w.advise(1), 5);
        w.setGround(5, 1, 3);
        Due.same("half of 7 is half of 6: less at 6 alone", w.advise(1), 6);
        w.lay(6, 1, 4);
        w.setGround(6, 1, 0);
        Due.same("with 4 there is room for one more", w.advise(1), 6);
        w.lay(4, 1, 0);
        w.setGround(4, 1, 2);
        for (int x = 0; x < 7; x++) {
            w.lay(x, 7, 5);
        }
        w.lay(7, 7, 1);
        Due.same("40 in the town", w.count(8), 40);
        Due.same("however many there are in the town", w.advise(1), 4);
        for (int x = 4; x < 10; x++) {
            w.setGround(x, 1, 9);
        }
        Due.same("less by none", w.advise(1), -1);
        Due.same("no river, no water", new FloodWardens().advise(6), -1);

        FloodWardens full = new FloodWardens();
        full.setRiver(0, 12);
        for (int x = 0; x < 8; x++) {
            full.lay(x, 1, 5);
        }
        full.setGround(8, 1, 9);
        full.setGround(9, 1, 9);
        Due.same("5 sandbags each, and half of 5 is half of 4", full.advise(1), -1);
        full.setGround(9, 1, 8);
        Due.same("half of 6 is more than half of 5", full.advise(1), 9);
    }

    /** One more sandbag in 8, 1 makes the water of 8, 0 go along the river: 4 less; elsewhere it is 1 less. */
    private static void adviseLooksAtFlow() {
        FloodWardens w = new FloodWardens();
        w.setRiver(0, 8);
        w.setGround(8, 0, 9);
        w.setGround(9, 0, 1);
        w.setGround(8, 1, 8);
        Due.same("the most, not the first", w.advise(1), 8);

        FloodWardens later = new FloodWardens();
        later.setRiver(3, 8);
        later.setGround(0, 1, 9);
        later.pass(2);
        Due.same("the river rises behind the first hour", later.advise(1), -1);
        Due.same("in the second", later.advise(2), 1);
    }

    private static void adviseRefused() {
        FloodWardens w = inDanger();
        Due.badArgument("advise(0)", w, () -> w.advise(0));
        Due.badArgument("advise(-1)", w, () -> w.advise(-1));
        Due.badArgument("advise(7)", w, () -> w.advise(7));
        Due.badArgument("advise(min)", w, () -> w.advise(Integer.MIN_VALUE));
    }

    private static void share() {
        FloodWardens w = new FloodWardens();
        Due.sameShare("share() of nobody", w.share(), 0.0);
        w.setRiver(0, 12);
        w.addGauge(0, 1, 1);
        w.addRefuge(5, 5, 20);
        w.settle(5, 5, 2);
        w.settle(5, 4, 3);
        w.settle(0, 1, 1);
        w.settle(0, 6, 1);
        w.addCaller(5, 5);
        Due.sameShare("share() at first", w.share(), 0.0);
        w.pass(1);
        Due.same("one is lost", w.count(5), 1);
        Due.sameShare("share() of 6", w.share(), 5.0 / 6);
        w.settle(0, 7, 1);
        Due.sameShare("share() of 7", w.share(), 5.0 / 7);
        w.setRiver(1, 12);
        w.settle(5, 6, 4);
        w.settle(8, 6, 4);
        w.addCaller(8, 6);
        w.pass(1);
        Due.same("4 people are on their way", w.count(3), 4);
        Due.sameShare("share() of 15", w.share(), 9.0 / 15);

        FloodWardens all = new FloodWardens();
        all.setRiver(0, 12);
        all.settle(0, 1, 1);
        all.pass(1);
        Due.same("all are lost", all.count(5), 1);
        Due.sameShare("share() of none that is not lost", all.share(), 0.0);

        FloodWardens safe = new FloodWardens();
        safe.setRiver(0, 2);
        safe.addGauge(0, 1, 1);
        safe.addRefuge(5, 5, 20);
        safe.settle(5, 5, 1);
        safe.addCaller(5, 5);
        safe.pass(1);
        Due.sameShare("share() of one who is safe", safe.share(), 1.0);
    }
}
