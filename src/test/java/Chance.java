/** Numbers that look like chance and are the same in every run of a test, and towns that are made of them. */
final class Chance {
    private long seed;

    Chance(long seed) {
        this.seed = seed;
    }

    /** By a linear congruence, of which the high bits are taken. */
    int below(int bound) {
        seed = seed * 6364136223846793005L + 1442695040888963407L;
        return (int) ((seed >>> 33) % bound);
    }

    int between(int least, int most) {
        return least + below(most - least + 1);
    }

    /** The same town for the same number, at the hour 0; it takes less than 150 calls. */
    static FloodWardens town(int number) {
        Chance chance = new Chance(number);
        FloodWardens w = new FloodWardens();
        int high = chance.between(2, 12);
        int wave = chance.between(1, 12);
        for (int hour = 0; hour < 12; hour++) {
            w.setRiver(hour, hour < wave ? chance.between(high / 2, high) : 0);
        }
        int highest = chance.between(1, 9);
        for (int cells = chance.below(5) * 20; cells > 0; cells--) {
            w.setGround(chance.below(10), chance.below(8), chance.between(0, highest));
        }
        for (int cells = chance.below(10); cells > 0; cells--) {
            Call.LAY.on(w, chance.below(10), chance.between(1, 2), chance.below(6));
        }
        chance.equip(w);
        chance.people(w);
        return w;
    }

    /** What would come to a cell that has one of the kind is refused, so that there are also less than the most. */
    private void equip(FloodWardens w) {
        for (int number = 0; number < 5; number++) {
            Call.ADD_PUMP.on(w, below(10), between(0, 4), between(1, 5), below(31));
        }
        for (int number = 0; number < 4; number++) {
            Call.ADD_GAUGE.on(w, below(10), between(0, 3), between(1, 6));
            Call.ADD_REFUGE.on(w, below(10), between(1, 7), between(1, 20));
        }
        Call.RUN.on(w, below(5));
    }

    private void people(FloodWardens w) {
        for (int number = between(1, 10); number > 0; number--) {
            w.settle(below(10), below(8), between(1, 6));
        }
        for (int number = below(4); number > 0; number--) {
            w.addCaller(below(10), below(8));
        }
    }
}
