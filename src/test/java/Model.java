import java.util.ArrayList;
import java.util.List;

/**
 * The document once more, in other words and without any regard to room or time: it is there so that
 * runs of calls can be compared with it. Shares no code with the class.
 */
final class Model {
    private static final int[] DX = {0, 1, 0, -1};
    private static final int[] DY = {-1, 0, 1, 0};

    private static final class Unit {
        int x;
        int y;
        /** Power, mark, room or people. */
        int size;
        int fuel;
        /** 1 if a pump runs; 0 at home, 1 on its way, 2 in a refuge, 3 lost. */
        int state;
        /** Water taken, or households warned. */
        int done;
        /** The refuge in which a household is. */
        Unit refuge;

        boolean isAt(int otherX, int otherY) {
            return x == otherX && y == otherY;
        }
    }

    private int hour = 0;
    private int lost = 0;
    private int[][] ground = new int[8][10];
    private int[][] bags = new int[8][10];
    private int[][] water = new int[8][10];
    private int[] table = new int[12];
    private List<Unit> pumps = new ArrayList<>();
    private List<Unit> gauges = new ArrayList<>();
    private List<Unit> refuges = new ArrayList<>();
    private List<Unit> households = new ArrayList<>();
    private List<Unit> callers = new ArrayList<>();

    Model() {
        for (int[] row : ground) {
            java.util.Arrays.fill(row, 2);
        }
    }

    private Model(Model m) {
        hour = m.hour;
        lost = m.lost;
        for (int y = 0; y < 8; y++) {
            ground[y] = m.ground[y].clone();
            bags[y] = m.bags[y].clone();
            water[y] = m.water[y].clone();
        }
        table = m.table.clone();
        pumps = copies(m.pumps);
        gauges = copies(m.gauges);
        refuges = copies(m.refuges);
        households = copies(m.households);
        callers = copies(m.callers);
        for (Unit h : households) {
            h.refuge = h.refuge == null ? null : refuges.get(m.refuges.indexOf(h.refuge));
        }
    }

    private static List<Unit> copies(List<Unit> units) {
        List<Unit> made = new ArrayList<>();
        for (Unit u : units) {
            Unit c = new Unit();
            c.x = u.x;
            c.y = u.y;
            c.size = u.size;
            c.fuel = u.fuel;
            c.state = u.state;
            c.done = u.done;
            c.refuge = u.refuge;
            made.add(c);
        }
        return made;
    }

    // ---- what is refused

    private static boolean inTown(int x, int y) {
        return 0 <= x && x <= 9 && 0 <= y && y <= 7;
    }

    private static void index(boolean fine) {
        if (!fine) {
            throw new IndexOutOfBoundsException();
        }
    }

    private static void argument(boolean fine) {
        if (!fine) {
            throw new IllegalArgumentException();
        }
    }

    private static void state(boolean fine) {
        if (!fine) {
            throw new IllegalStateException();
        }
    }

    private static Unit find(List<Unit> units, int x, int y) {
        for (Unit u : units) {
            if (u.isAt(x, y)) {
                return u;
            }
        }
        return null;
    }

    private static int add(List<Unit> units, int x, int y, int size, int fuel, int state) {
        Unit u = new Unit();
        u.x = x;
        u.y = y;
        u.size = size;
        u.fuel = fuel;
        u.state = state;
        units.add(u);
        return units.size() - 1;
    }

    private static Unit get(List<Unit> units, int number, int what, int facts) {
        index(number >= 0 && number < units.size() && what >= 0 && what < facts);
        return units.get(number);
    }

    // ---- the calls

    int setGround(int x, int y, int to) {
        index(inTown(x, y));
        argument(to >= 0 && to <= 9);
        int was = ground[y][x];
        ground[y][x] = to;
        return was;
    }

    int lay(int x, int y, int to) {
        index(inTown(x, y));
        argument(to >= 0 && to <= 5);
        int was = bags[y][x];
        bags[y][x] = to;
        int all = allBags();
        if (all > 40) {
            bags[y][x] = was;
        }
        state(all <= 40);
        return all;
    }

    int setRiver(int at, int high) {
        index(at >= 0 && at <= 11);
        argument(high >= 0 && high <= 12);
        int was = table[at];
        table[at] = high;
        return was;
    }

    int addPump(int x, int y, int power, int fuel) {
        index(inTown(x, y));
        argument(power >= 1 && power <= 5 && fuel >= 0 && fuel <= 30);
        state(pumps.size() < 5 && find(pumps, x, y) == null);
        return add(pumps, x, y, power, fuel, 1);
    }

    int run(int pump) {
        Unit p = get(pumps, pump, 0, 1);
        p.state = 1 - p.state;
        return p.state;
    }

    int addGauge(int x, int y, int mark) {
        index(inTown(x, y));
        argument(mark >= 1 && mark <= 20);
        state(gauges.size() < 4 && find(gauges, x, y) == null);
        return add(gauges, x, y, mark, 0, 0);
    }

    int addRefuge(int x, int y, int room) {
        index(inTown(x, y));
        argument(room >= 1 && room <= 20);
        state(refuges.size() < 4 && find(refuges, x, y) == null);
        return add(refuges, x, y, room, 0, 0);
    }

    int settle(int x, int y, int people) {
        index(inTown(x, y));
        argument(people >= 1 && people <= 6);
        state(households.size() < 10);
        return add(households, x, y, people, 0, 0);
    }

    int addCaller(int x, int y) {
        index(inTown(x, y));
        state(callers.size() < 3);
        return add(callers, x, y, 0, 0, 0);
    }

    int cell(int x, int y, int what) {
        index(inTown(x, y) && what >= 0 && what <= 5);
        int people = 0;
        for (Unit h : households) {
            people += h.isAt(x, y) && h.state < 2 ? h.size : 0;
        }
        return new int[] {ground[y][x], bags[y][x], water[y][x], level(x, y), people, dry(x, y) ? 1 : 0}[what];
    }

    int pump(int pump, int what) {
        Unit p = get(pumps, pump, what, 6);
        return new int[] {p.x, p.y, p.size, p.fuel, p.state, p.done}[what];
    }

    int gauge(int gauge, int what) {
        Unit g = get(gauges, gauge, what, 5);
        return new int[] {g.x, g.y, g.size, water[g.y][g.x], rings(g) ? 1 : 0}[what];
    }

    int refuge(int refuge, int what) {
        Unit r = get(refuges, refuge, what, 5);
        int guests = 0;
        for (Unit h : households) {
            guests += h.refuge == r ? 1 : 0;
        }
        return new int[] {r.x, r.y, r.size, peopleIn(r), guests}[what];
    }

    int household(int household, int what) {
        Unit h = get(households, household, what, 5);
        Unit goal = h.state < 2 ? goalOf(h) : null;
        int steps = h.state == 2 ? 0 : goal == null ? -1 : steps(h.x, h.y, goal.x, goal.y);
        return new int[] {h.x, h.y, h.size, h.state, steps}[what];
    }

    int caller(int caller, int what) {
        Unit c = get(callers, caller, what, 3);
        return new int[] {c.x, c.y, c.done}[what];
    }

    int count(int what) {
        index(what >= 0 && what <= 9);
        int ringing = 0;
        for (Unit g : gauges) {
            ringing += rings(g) ? 1 : 0;
        }
        return new int[] {hour, households.size(), people(0), people(1), people(2), lost,
            street(true), street(false), allBags(), ringing}[what];
    }

    int pass(int hours) {
        argument(hours >= 1 && hours <= 36);
        int before = lost;
        for (int i = 0; i < hours; i++) {
            passHour();
        }
        return lost - before;
    }

    int foresee(int hours, int what) {
        argument(hours >= 1 && hours <= 36);
        index(what >= 0 && what <= 3);
        Model m = new Model(this);
        int lostThen = m.pass(hours);
        int fuel = 0;
        for (Unit p : m.pumps) {
            fuel += p.fuel;
        }
        return new int[] {m.people(2), lostThen, m.street(true), fuel}[what];
    }

    int rings(int gauge) {
        get(gauges, gauge, 0, 1);
        Model m = new Model(this);
        int hours = 0;
        while (hours < 48 && !m.rings(m.gauges.get(gauge))) {
            m.passHour();
            hours++;
        }
        return m.rings(m.gauges.get(gauge)) ? hours : -1;
    }

    int advise(int hours) {
        argument(hours >= 1 && hours <= 6);
        Model without = new Model(this);
        without.pass(hours);
        int least = without.street(false);
        int best = -1;
        for (int x = 9; x >= 0; x--) {
            Model with = new Model(this);
            with.bags[1][x]++;
            with.pass(hours);
            int then = with.street(false);
            if (bags[1][x] < 5 && (then < least || then == least && best >= 0)) {
                least = then;
                best = x;
            }
        }
        return best;
    }

    double share() {
        int all = people(0) + people(1) + people(2);
        return all == 0 ? 0 : people(2) / (double) all;
    }

    long digest() {
        long d = 1013;
        for (int i = 0; i < 10; i++) {
            d = d * 31 + count(i);
        }
        for (int i = 0; i < 480; i++) {
            d = d * 31 + cell(i / 6 % 10, i / 60, i % 6);
        }
        for (int high : table) {
            d = d * 31 + high;
        }
        for (int i = 0; i < 6 * pumps.size(); i++) {
            d = d * 31 + pump(i / 6, i % 6);
        }
        for (int i = 0; i < 5 * gauges.size(); i++) {
            d = d * 31 + gauge(i / 5, i % 5);
        }
        for (int i = 0; i < 5 * refuges.size(); i++) {
            d = d * 31 + refuge(i / 5, i % 5);
        }
        for (int i = 0; i < 5 * households.size(); i++) {
            d = d * 31 + household(i / 5, i % 5);
        }
        for (int i = 0; i < 3 * callers.size(); i++) {
            d = d * 31 + caller(i / 3, i % 3);
        }
        return d;
    }

    // ---- what is there

    private int level(int x, int y) {
        return ground[y][x] + bags[y][x] + water[y][x];
    }

    private boolean dry(int x, int y) {
        return water[y][x] < 3;
    }

    private boolean rings(Unit g) {
        return water[g.y][g.x] >= g.size;
    }

    private int allBags() {
        int all = 0;
        for (int[] row : bags) {
            for (int b : row) {
                all += b;
            }
        }
        return all;
    }

    private int street(boolean cells) {
        int sum = 0;
        for (int y = 1; y < 8; y++) {
            for (int w : water[y]) {
                sum += cells ? Math.min(w, 1) : w;
            }
        }
        return sum;
    }

    private int people(int state) {
        int sum = 0;
        for (Unit h : households) {
            sum += h.state == state ? h.size : 0;
        }
        return sum;
    }

    private int peopleIn(Unit refuge) {
        int sum = 0;
        for (Unit h : households) {
            sum += h.refuge == refuge ? h.size : 0;
        }
        return sum;
    }

    // ---- ways, told backwards from their last cell

    private int[][] stepsTo(int x, int y) {
        int[][] steps = new int[8][10];
        for (int[] row : steps) {
            java.util.Arrays.fill(row, 1000);
        }
        if (dry(x, y)) {
            steps[y][x] = 0;
        }
        for (boolean changed = true; changed;) {
            changed = false;
            for (int i = 0; i < 320; i++) {
                int fromX = i / 4 % 10;
                int fromY = i / 40;
                int toX = fromX + DX[i % 4];
                int toY = fromY + DY[i % 4];
                if (dry(fromX, fromY) && inTown(toX, toY) && steps[toY][toX] + 1 < steps[fromY][fromX]) {
                    steps[fromY][fromX] = steps[toY][toX] + 1;
                    changed = true;
                }
            }
        }
        return steps;
    }

    /** The steps from a cell, whatever water it has; 1000 or more without a way. */
    private int stepsOrFar(int fromX, int fromY, int x, int y) {
        if (fromX == x && fromY == y) {
            return 0;
        }
        int[][] rest = stepsTo(x, y);
        int best = 1000;
        for (int d = 0; d < 4; d++) {
            if (inTown(fromX + DX[d], fromY + DY[d])) {
                best = Math.min(best, 1 + rest[fromY + DY[d]][fromX + DX[d]]);
            }
        }
        return best;
    }

    private int steps(int fromX, int fromY, int x, int y) {
        int steps = stepsOrFar(fromX, fromY, x, y);
        return steps >= 1000 ? -1 : steps;
    }

    private void step(Unit u, Unit goal) {
        int all = goal == null ? 0 : stepsOrFar(u.x, u.y, goal.x, goal.y);
        if (all == 0) {
            return;
        }
        int[][] rest = stepsTo(goal.x, goal.y);
        for (int d = 0; d < 4; d++) {
            int x = u.x + DX[d];
            int y = u.y + DY[d];
            if (inTown(x, y) && rest[y][x] == all - 1) {
                u.x = x;
                u.y = y;
                return;
            }
        }
    }

    private Unit nearest(Unit from, List<Unit> goals) {
        Unit best = null;
        int least = 1000;
        for (Unit goal : goals) {
            int steps = stepsOrFar(from.x, from.y, goal.x, goal.y);
            if (steps < least) {
                least = steps;
                best = goal;
            }
        }
        return best;
    }

    private boolean fits(Unit refuge, Unit household) {
        return peopleIn(refuge) + household.size <= refuge.size;
    }

    private Unit goalOf(Unit household) {
        List<Unit> goals = new ArrayList<>();
        for (Unit r : refuges) {
            if (fits(r, household)) {
                goals.add(r);
            }
        }
        return nearest(household, goals);
    }

    // ---- an hour

    private void passHour() {
        java.util.Arrays.fill(water[0], table[hour % 12]);
        flow();
        for (Unit p : pumps) {
            if (p.state == 1 && p.fuel > 0 && water[p.y][p.x] > 0) {
                int taken = Math.min(p.size, water[p.y][p.x]);
                water[p.y][p.x] -= taken;
                p.done += taken;
                p.fuel--;
            }
        }
        if (count(9) > 0) {
            for (Unit c : callers) {
                call(c);
            }
        }
        for (Unit h : households) {
            if (h.state == 1) {
                step(h, goalOf(h));
                Unit r = find(refuges, h.x, h.y);
                if (r != null && fits(r, h)) {
                    h.state = 2;
                    h.refuge = r;
                }
            }
        }
        for (Unit h : households) {
            if (h.state < 2 && water[h.y][h.x] >= 5) {
                h.size--;
                lost++;
                h.state = h.size == 0 ? 3 : h.state;
            }
        }
        hour++;
    }

    private void flow() {
        int[][] more = new int[8][10];
        for (int y = 0; y < 8; y++) {
            for (int x = 0; x < 10; x++) {
                int toX = -1;
                int toY = -1;
                int lowest = Integer.MAX_VALUE;
                for (int d = 0; d < 4; d++) {
                    if (inTown(x + DX[d], y + DY[d]) && level(x + DX[d], y + DY[d]) < lowest) {
                        toX = x + DX[d];
                        toY = y + DY[d];
                        lowest = level(toX, toY);
                    }
                }
                if (water[y][x] > 0 && level(x, y) - lowest >= 2) {
                    int given = Math.min((level(x, y) - lowest) / 2, water[y][x]);
                    more[y][x] -= given;
                    more[toY][toX] += given;
                }
            }
        }
        for (int y = 0; y < 8; y++) {
            for (int x = 0; x < 10; x++) {
                water[y][x] = Math.min(40, water[y][x] + more[y][x]);
            }
        }
    }

    private void call(Unit caller) {
        List<Unit> atHome = new ArrayList<>();
        for (Unit h : households) {
            if (h.state == 0) {
                atHome.add(h);
            }
        }
        step(caller, nearest(caller, atHome));
        for (Unit h : atHome) {
            if (Math.abs(h.x - caller.x) + Math.abs(h.y - caller.y) <= 1) {
                h.state = 1;
                caller.done++;
            }
        }
    }
}
