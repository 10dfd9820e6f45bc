/** Towns that tests begin with; each is made by less than 60 calls. */
enum Towns {
    /** Nothing is in it. */
    EMPTY {
        @Override
        FloodWardens make() {
            return new FloodWardens();
        }
    },
    /** Some of each kind is in it, and a household of each state. */
    LIVED_IN {
        @Override
        FloodWardens make() {
            FloodWardens w = new FloodWardens();
            w.setRiver(0, 12);
            w.setRiver(1, 12);
            w.setRiver(2, 7);
            w.setRiver(11, 3);
            w.setGround(9, 7, 9);
            w.setGround(4, 4, 0);
            w.lay(3, 1, 5);
            w.lay(9, 1, 2);
            w.addPump(0, 1, 2, 7);
            w.addPump(9, 1, 5, 30);
            w.run(1);
            w.addGauge(0, 1, 1);
            w.addGauge(9, 7, 20);
            w.addRefuge(5, 5, 3);
            w.addRefuge(2, 6, 20);
            w.settle(5, 5, 3);
            w.settle(8, 1, 1);
            w.settle(9, 4, 4);
            w.settle(5, 4, 2);
            w.addCaller(5, 5);
            w.pass(2);
            return w;
        }
    },
    /** As much of each kind is in it as there can be: 40 sandbags, 5 pumps, 4 boards, 4 refuges and so on. */
    FULL {
        @Override
        FloodWardens make() {
            FloodWardens w = new FloodWardens();
            for (int hour = 0; hour < 12; hour++) {
                w.setRiver(hour, 12 - hour);
            }
            w.lay(2, 1, 5);
            w.lay(4, 1, 5);
            w.lay(6, 1, 5);
            w.lay(7, 1, 5);
            w.lay(9, 1, 5);
            w.lay(8, 2, 5);
            w.lay(0, 2, 5);
            w.lay(9, 7, 5);
            w.addPump(1, 1, 1, 30);
            w.addPump(3, 1, 2, 0);
            w.addPump(9, 7, 3, 9);
            w.addPump(0, 0, 4, 1);
            w.addPump(0, 7, 5, 5);
            w.addGauge(0, 1, 1);
            w.addGauge(9, 7, 20);
            w.addGauge(5, 1, 5);
            w.addGauge(5, 0, 12);
            w.addRefuge(5, 5, 3);
            w.addRefuge(2, 6, 20);
            w.addRefuge(9, 0, 1);
            w.addRefuge(0, 7, 6);
            w.settle(5, 5, 3);
            w.settle(8, 1, 1);
            w.settle(9, 4, 4);
            w.settle(5, 4, 2);
            w.settle(5, 4, 6);
            w.settle(0, 7, 6);
            w.settle(1, 1, 2);
            w.settle(9, 7, 6);
            w.settle(0, 0, 5);
            w.settle(9, 0, 1);
            w.addCaller(5, 5);
            w.addCaller(0, 7);
            w.addCaller(9, 0);
            w.pass(3);
            return w;
        }
    };

    abstract FloodWardens make();
}
