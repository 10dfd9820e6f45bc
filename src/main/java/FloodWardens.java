/** Wardens of a flood: a town by a river, and the people who are warned of its water. */
public final class FloodWardens {
    private static final int WIDTH = 10;
    private static final int HEIGHT = 8;
    private static final int CELLS = 80;
    private static final int DIRECTIONS = 4;
    private static final int UP = 0;
    private static final int RIGHT = 1;
    private static final int DOWN = 2;

    private static final int FIRST_GROUND = 2;
    private static final int MOST_GROUND = 9;
    private static final int MOST_BAGS_IN_CELL = 5;
    private static final int MOST_BAGS_IN_TOWN = 40;
    private static final int MOST_WATER = 40;
    private static final int TABLE_HOURS = 12;
    private static final int MOST_HIGH = 12;
    private static final int TOO_DEEP_TO_WALK = 3;
    private static final int DEADLY_WATER = 5;

    private static final int MOST_PUMPS = 5;
    private static final int MOST_POWER = 5;
    private static final int MOST_FUEL = 30;
    private static final int MOST_GAUGES = 4;
    private static final int MOST_MARK = 20;
    private static final int MOST_REFUGES = 4;
    private static final int MOST_ROOM = 20;
    private static final int MOST_HOUSEHOLDS = 10;
    private static final int MOST_PEOPLE = 6;
    private static final int MOST_CALLERS = 3;

    private static final int AT_HOME = 0;
    private static final int ON_ITS_WAY = 1;
    private static final int IN_REFUGE = 2;
    private static final int LOST = 3;

    private static final int CELL_FACTS = 6;
    private static final int PUMP_FACTS = 6;
    private static final int GAUGE_FACTS = 5;
    private static final int REFUGE_FACTS = 5;
    private static final int HOUSEHOLD_FACTS = 5;
    private static final int CALLER_FACTS = 3;
    private static final int COUNT_FACTS = 10;
    private static final int FORESEEN_FACTS = 4;

    private static final int MOST_HOURS = 36;
    private static final int MOST_RING_HOURS = 48;
    private static final int MOST_ADVISE_HOURS = 6;

    /** Stands for no cell, no number and no way. */
    private static final int NONE = -1;

    private final Town town;
    /** Goes ahead in the town's stead, so that looking ahead changes nothing and makes nothing new. */
    private final Town trial;

    public FloodWardens() {
        town = new Town();
        trial = new Town();
    }

    // ---- town and river

    public int setGround(int x, int y, int ground) throws IndexOutOfBoundsException, IllegalArgumentException {
        checkCell(x, y);
        checkArgument(isWithin(ground, 0, MOST_GROUND));
        int place = placeOf(x, y);
        int before = town.land.ground[place];
        town.land.ground[place] = ground;
        return before;
    }

    public int lay(int x, int y, int bags)
            throws IndexOutOfBoundsException, IllegalArgumentException, IllegalStateException {
        checkCell(x, y);
        checkArgument(isWithin(bags, 0, MOST_BAGS_IN_CELL));
        int place = placeOf(x, y);
        int inTown = town.land.bagsInTown() - town.land.bags[place] + bags;
        checkState(inTown <= MOST_BAGS_IN_TOWN);
        town.land.bags[place] = bags;
        return inTown;
    }

    public int setRiver(int hour, int high) throws IndexOutOfBoundsException, IllegalArgumentException {
        checkIndex(isWithin(hour, 0, TABLE_HOURS - 1));
        checkArgument(isWithin(high, 0, MOST_HIGH));
        int before = town.land.table[hour];
        town.land.table[hour] = high;
        return before;
    }

    // ---- what the wardens have

    public int addPump(int x, int y, int power, int fuel)
            throws IndexOutOfBoundsException, IllegalArgumentException, IllegalStateException {
        checkCell(x, y);
        checkArgument(isWithin(power, 1, MOST_POWER) && isWithin(fuel, 0, MOST_FUEL));
        checkState(town.pumps.canComeTo(placeOf(x, y)));
        return town.pumps.setUp(placeOf(x, y), power, fuel);
    }

    public boolean run(int pump) throws IndexOutOfBoundsException {
        checkIndex(town.pumps.has(pump));
        town.pumps.running[pump] = !town.pumps.running[pump];
        return town.pumps.running[pump];
    }

    public int addGauge(int x, int y, int mark)
            throws IndexOutOfBoundsException, IllegalArgumentException, IllegalStateException {
        checkCell(x, y);
        checkArgument(isWithin(mark, 1, MOST_MARK));
        checkState(town.gauges.canComeTo(placeOf(x, y)));
        return town.gauges.hang(placeOf(x, y), mark);
    }

    public int addRefuge(int x, int y, int room)
            throws IndexOutOfBoundsException, IllegalArgumentException, IllegalStateException {
        checkCell(x, y);
        checkArgument(isWithin(room, 1, MOST_ROOM));
        checkState(town.refuges.canComeTo(placeOf(x, y)));
        return town.refuges.open(placeOf(x, y), room);
    }

    public int settle(int x, int y, int people)
            throws IndexOutOfBoundsException, IllegalArgumentException, IllegalStateException {
        checkCell(x, y);
        checkArgument(isWithin(people, 1, MOST_PEOPLE));
        checkState(!town.households.isFull());
        return town.households.moveIn(placeOf(x, y), people);
    }

    public int addCaller(int x, int y) throws IndexOutOfBoundsException, IllegalStateException {
        checkCell(x, y);
        checkState(!town.callers.isFull());
        return town.callers.post(placeOf(x, y));
    }

    // ---- what is there

    public int cell(int x, int y, int what) throws IndexOutOfBoundsException {
        checkCell(x, y);
        checkIndex(isWithin(what, 0, CELL_FACTS - 1));
        return town.tellCell(placeOf(x, y), what);
    }

    public int pump(int pump, int what) throws IndexOutOfBoundsException {
        checkIndex(town.pumps.has(pump) && isWithin(what, 0, PUMP_FACTS - 1));
        return town.pumps.tell(pump, what);
    }

    public int gauge(int gauge, int what) throws IndexOutOfBoundsException {
        checkIndex(town.gauges.has(gauge) && isWithin(what, 0, GAUGE_FACTS - 1));
        return town.gauges.tell(gauge, what, town.land);
    }

    public int refuge(int refuge, int what) throws IndexOutOfBoundsException {
        checkIndex(town.refuges.has(refuge) && isWithin(what, 0, REFUGE_FACTS - 1));
        return town.refuges.tell(refuge, what);
    }

    public int household(int household, int what) throws IndexOutOfBoundsException {
        checkIndex(town.households.has(household) && isWithin(what, 0, HOUSEHOLD_FACTS - 1));
        return town.tellHousehold(household, what);
    }

    public int caller(int caller, int what) throws IndexOutOfBoundsException {
        checkIndex(town.callers.has(caller) && isWithin(what, 0, CALLER_FACTS - 1));
        return town.callers.tell(caller, what);
    }

    public int count(int what) throws IndexOutOfBoundsException {
        checkIndex(isWithin(what, 0, COUNT_FACTS - 1));
        return town.tellCount(what);
    }

    // ---- hours and looking ahead

    public int pass(int hours) throws IllegalArgumentException {
        checkArgument(isWithin(hours, 1, MOST_HOURS));
        int lostBefore = town.households.lostPeople;
        town.passHours(hours);
        return town.households.lostPeople - lostBefore;
    }

    public int foresee(int hours, int what) throws IllegalArgumentException, IndexOutOfBoundsException {
        checkArgument(isWithin(hours, 1, MOST_HOURS));
        checkIndex(isWithin(what, 0, FORESEEN_FACTS - 1));
        trial.copyFrom(town);
        trial.passHours(hours);
        switch (what) {
            case 0:
                return trial.households.peopleWho(IN_REFUGE);
            case 1:
                return trial.households.lostPeople - town.households.lostPeople;
            case 2:
                return trial.land.wetStreets();
            default:
                return trial.pumps.fuelOfAll();
        }
    }

    public int rings(int gauge) throws IndexOutOfBoundsException {
        checkIndex(town.gauges.has(gauge));
        trial.copyFrom(town);
        for (int hours = 0; hours < MOST_RING_HOURS; hours++) {
            if (trial.gauges.isRinging(gauge, trial.land)) {
                return hours;
            }
            trial.passWaterHour();
        }
        return trial.gauges.isRinging(gauge, trial.land) ? MOST_RING_HOURS : NONE;
    }

    public int advise(int hours) throws IllegalArgumentException {
        checkArgument(isWithin(hours, 1, MOST_ADVISE_HOURS));
        int best = NONE;
        int least = waterBehind(hours, NONE);
        for (int x = 0; x < WIDTH; x++) {
            int place = placeOf(x, 1);
            if (town.land.bags[place] < MOST_BAGS_IN_CELL) {
                int water = waterBehind(hours, place);
                if (water < least) {
                    least = water;
                    best = x;
                }
            }
        }
        return best;
    }

    public double share() {
        int safe = town.households.peopleWho(IN_REFUGE);
        int alive = safe + town.households.peopleWho(AT_HOME) + town.households.peopleWho(ON_ITS_WAY);
        return alive > 0 ? (double) safe / alive : 0.0;
    }

    public long digest() {
        long sum = 1013;
        for (int what = 0; what < COUNT_FACTS; what++) {
            sum = sum * 31 + town.tellCount(what);
        }
        for (int place = 0; place < CELLS; place++) {
            for (int what = 0; what < CELL_FACTS; what++) {
                sum = sum * 31 + town.tellCell(place, what);
            }
        }
        for (int hour = 0; hour < TABLE_HOURS; hour++) {
            sum = sum * 31 + town.land.table[hour];
        }
        return digestOfPeople(digestOfTools(sum));
    }

    private long digestOfTools(long sumBefore) {
        long sum = sumBefore;
        for (int pump = 0; pump < town.pumps.count; pump++) {
            for (int what = 0; what < PUMP_FACTS; what++) {
                sum = sum * 31 + town.pumps.tell(pump, what);
            }
        }
        for (int gauge = 0; gauge < town.gauges.count; gauge++) {
            for (int what = 0; what < GAUGE_FACTS; what++) {
                sum = sum * 31 + town.gauges.tell(gauge, what, town.land);
            }
        }
        for (int refuge = 0; refuge < town.refuges.count; refuge++) {
            for (int what = 0; what < REFUGE_FACTS; what++) {
                sum = sum * 31 + town.refuges.tell(refuge, what);
            }
        }
        return sum;
    }

    private long digestOfPeople(long sumBefore) {
        long sum = sumBefore;
        for (int household = 0; household < town.households.count; household++) {
            for (int what = 0; what < HOUSEHOLD_FACTS; what++) {
                sum = sum * 31 + town.tellHousehold(household, what);
            }
        }
        for (int caller = 0; caller < town.callers.count; caller++) {
            for (int what = 0; what < CALLER_FACTS; what++) {
                sum = sum * 31 + town.callers.tell(caller, what);
            }
        }
        return sum;
    }

    /** The water in the streets behind so many hours, with one more sandbag in a cell, or in none. */
    private int waterBehind(int hours, int placeOfBag) {
        trial.copyFrom(town);
        if (placeOfBag >= 0 && placeOfBag < CELLS) {
            trial.land.bags[placeOfBag]++;
        }
        for (int hour = 0; hour < hours; hour++) {
            trial.passWaterHour();
        }
        return trial.land.waterInStreets();
    }

    private static int placeOf(int x, int y) {
        return WIDTH * y + x;
    }

    private static boolean isWithin(int number, int least, int most) {
        return number >= least && number <= most;
    }

    private static void checkCell(int x, int y) {
        checkIndex(isWithin(x, 0, WIDTH - 1) && isWithin(y, 0, HEIGHT - 1));
    }

    private static void checkIndex(boolean holds) {
        if (!holds) {
            throw new IndexOutOfBoundsException("there is no such thing to name");
        }
    }

    private static void checkArgument(boolean holds) {
        if (!holds) {
            throw new IllegalArgumentException("a number is out of its bounds");
        }
    }

    private static void checkState(boolean holds) {
        if (!holds) {
            throw new IllegalStateException("there is no place for it");
        }
    }

    /** All that is there at an hour, and how an hour goes. */
    private static final class Town {
        int hour;
        final Land land = new Land();
        final Pumps pumps = new Pumps();
        final Gauges gauges = new Gauges();
        final Refuges refuges = new Refuges();
        final Households households = new Households();
        final Callers callers = new Callers();
        final Ways ways = new Ways();

        void copyFrom(Town other) {
            hour = other.hour;
            land.copyFrom(other.land);
            pumps.copyFrom(other.pumps);
            gauges.copyFrom(other.gauges);
            refuges.copyFrom(other.refuges);
            households.copyFrom(other.households);
            callers.copyFrom(other.callers);
        }

        void passHours(int hours) {
            for (int passed = 0; passed < hours; passed++) {
                passHour();
            }
        }

        /** The people come behind the clock here, because nothing that they do asks for the hour. */
        void passHour() {
            passWaterHour();
            if (gauges.ringing(land) > 0) {
                callers.callOut(households, ways, land);
            }
            households.goToRefuges(refuges, ways, land);
            households.drown(land);
        }

        /** The hour without its people, which is enough where only water is asked for: they never move it. */
        void passWaterHour() {
            land.rise(hour);
            land.flow();
            pumps.work(land);
            hour++;
        }

        int tellCell(int place, int what) {
            switch (what) {
                case 0:
                    return land.ground[place];
                case 1:
                    return land.bags[place];
                case 2:
                    return land.water[place];
                case 3:
                    return land.level(place);
                case 4:
                    return households.peopleOutAt(place);
                default:
                    return land.isWalkable(place) ? 1 : 0;
            }
        }

        int tellHousehold(int household, int what) {
            switch (what) {
                case 0:
                    return households.xOf(household);
                case 1:
                    return households.yOf(household);
                case 2:
                    return households.people[household];
                case 3:
                    return households.state[household];
                default:
                    return stepsToRefuge(household);
            }
        }

        int stepsToRefuge(int household) {
            if (households.state[household] == IN_REFUGE) {
                return 0;
            }
            if (households.state[household] == LOST) {
                return NONE;
            }
            ways.search(households.cell[household], land);
            int nearest = refuges.nearestWithRoom(households.people[household], ways);
            return nearest == NONE ? NONE : ways.steps[refuges.cell[nearest]];
        }

        int tellCount(int what) {
            switch (what) {
                case 0:
                    return hour;
                case 1:
                    return households.count;
                case 2:
                    return households.peopleWho(AT_HOME);
                case 3:
                    return households.peopleWho(ON_ITS_WAY);
                case 4:
                    return households.peopleWho(IN_REFUGE);
                case 5:
                    return households.lostPeople;
                case 6:
                    return land.wetStreets();
                case 7:
                    return land.waterInStreets();
                case 8:
                    return land.bagsInTown();
                default:
                    return gauges.ringing(land);
            }
        }
    }

    /** The cells with all that lies or stands in them, and the river's table. */
    private static final class Land {
        final int[] ground = new int[CELLS];
        final int[] bags = new int[CELLS];
        final int[] water = new int[CELLS];
        final int[] waterThen = new int[CELLS];
        final int[] table = new int[TABLE_HOURS];

        Land() {
            for (int place = 0; place < CELLS; place++) {
                ground[place] = FIRST_GROUND;
            }
        }

        void copyFrom(Land other) {
            System.arraycopy(other.ground, 0, ground, 0, CELLS);
            System.arraycopy(other.bags, 0, bags, 0, CELLS);
            System.arraycopy(other.water, 0, water, 0, CELLS);
            System.arraycopy(other.table, 0, table, 0, TABLE_HOURS);
        }

        /** The cell next to another in a direction, or NONE at the town's edge. */
        static int neighbourOf(int place, int direction) {
            switch (direction) {
                case UP:
                    return place >= WIDTH ? place - WIDTH : NONE;
                case RIGHT:
                    return place % WIDTH < WIDTH - 1 ? place + 1 : NONE;
                case DOWN:
                    return place < CELLS - WIDTH ? place + WIDTH : NONE;
                default:
                    return place % WIDTH > 0 ? place - 1 : NONE;
            }
        }

        static boolean isSameOrNeighbour(int place, int other) {
            boolean near = place == other;
            for (int direction = 0; direction < DIRECTIONS; direction++) {
                near = near || neighbourOf(place, direction) == other;
            }
            return near;
        }

        int level(int place) {
            return ground[place] + bags[place] + water[place];
        }

        boolean isWalkable(int place) {
            return water[place] < TOO_DEEP_TO_WALK;
        }

        void rise(int hour) {
            int high = table[Math.floorMod(hour, TABLE_HOURS)];
            for (int place = 0; place < WIDTH; place++) {
                water[place] = high;
            }
        }

        /** What is given is kept apart until the end, so that all of it goes by the levels from before. */
        void flow() {
            System.arraycopy(water, 0, waterThen, 0, CELLS);
            for (int place = 0; place < CELLS; place++) {
                int lowest = lowestNeighbour(place);
                if (lowest != NONE) {
                    int given = givenTo(lowest, place);
                    waterThen[place] -= given;
                    waterThen[lowest] += given;
                }
            }
            for (int place = 0; place < CELLS; place++) {
                water[place] = Math.min(waterThen[place], MOST_WATER);
            }
        }

        int lowestNeighbour(int place) {
            int lowest = NONE;
            for (int direction = 0; direction < DIRECTIONS; direction++) {
                int neighbour = neighbourOf(place, direction);
                if (neighbour != NONE && (lowest == NONE || level(neighbour) < level(lowest))) {
                    lowest = neighbour;
                }
            }
            return lowest;
        }

        /** Half of a difference of 1 is 0, so that only one of 2 or more has water flow. */
        int givenTo(int lower, int place) {
            int difference = level(place) - level(lower);
            return difference > 0 ? Math.min(difference / 2, water[place]) : 0;
        }

        int bagsInTown() {
            int sum = 0;
            for (int place = 0; place < CELLS; place++) {
                sum += bags[place];
            }
            return sum;
        }

        int wetStreets() {
            int wet = 0;
            for (int place = WIDTH; place < CELLS; place++) {
                wet += water[place] > 0 ? 1 : 0;
            }
            return wet;
        }

        int waterInStreets() {
            int sum = 0;
            for (int place = WIDTH; place < CELLS; place++) {
                sum += water[place];
            }
            return sum;
        }
    }

    /** The shortest ways from one cell to all the others. */
    private static final class Ways {
        /** For each cell the steps of the shortest way to it, or NONE. */
        final int[] steps = new int[CELLS];
        /** For each cell that a way leads to, the cell in which the way's first step ends. */
        final int[] firstStop = new int[CELLS];
        final int[] reached = new int[CELLS];
        int reachedCount;

        void search(int from, Land land) {
            for (int place = 0; place < CELLS; place++) {
                steps[place] = NONE;
            }
            steps[from] = 0;
            firstStop[from] = from;
            reached[0] = from;
            reachedCount = 1;
            for (int done = 0; done < reachedCount && done < CELLS; done++) {
                goOnFrom(reached[done], land);
            }
        }

        /**
         * Cells are reached in the order of the first directions of their ways, so that the way
         * found first is, of several as short, the one that begins with the first direction.
         */
        void goOnFrom(int place, Land land) {
            for (int direction = 0; direction < DIRECTIONS; direction++) {
                int next = Land.neighbourOf(place, direction);
                if (next != NONE && steps[next] == NONE && land.isWalkable(next) && reachedCount < CELLS) {
                    steps[next] = steps[place] + 1;
                    firstStop[next] = steps[place] == 0 ? next : firstStop[place];
                    reached[reachedCount] = next;
                    reachedCount++;
                }
            }
        }

        /** Whether there is a way to a cell that is shorter than the one to another cell, or that one has none. */
        boolean isNearer(int place, int other) {
            return steps[place] != NONE && (other == NONE || steps[place] < steps[other]);
        }
    }

    /** Things or people with a number, each in a cell. */
    private abstract static class Numbered {
        final int[] cell;
        int count;

        Numbered(int[] cell) {
            this.cell = cell;
        }

        boolean isFull() {
            return count >= cell.length;
        }

        boolean has(int number) {
            return number >= 0 && number < count;
        }

        /** The one with the smallest number in a cell, or NONE. */
        int firstIn(int place) {
            for (int number = 0; number < count; number++) {
                if (cell[number] == place) {
                    return number;
                }
            }
            return NONE;
        }

        boolean canComeTo(int place) {
            return !isFull() && firstIn(place) == NONE;
        }

        int xOf(int number) {
            return cell[number] % WIDTH;
        }

        int yOf(int number) {
            return cell[number] / WIDTH;
        }

        void copyCells(Numbered other) {
            count = other.count;
            for (int number = 0; number < count; number++) {
                cell[number] = other.cell[number];
            }
        }
    }

    private static final class Pumps extends Numbered {
        final int[] power = new int[MOST_PUMPS];
        final int[] fuel = new int[MOST_PUMPS];
        final boolean[] running = new boolean[MOST_PUMPS];
        final int[] taken = new int[MOST_PUMPS];

        Pumps() {
            super(new int[MOST_PUMPS]);
        }

        int setUp(int place, int itsPower, int itsFuel) {
            int number = count;
            cell[number] = place;
            power[number] = itsPower;
            fuel[number] = itsFuel;
            running[number] = true;
            count++;
            return number;
        }

        void copyFrom(Pumps other) {
            copyCells(other);
            for (int pump = 0; pump < count; pump++) {
                power[pump] = other.power[pump];
                fuel[pump] = other.fuel[pump];
                running[pump] = other.running[pump];
                taken[pump] = other.taken[pump];
            }
        }

        void work(Land land) {
            for (int pump = 0; pump < count; pump++) {
                int there = land.water[cell[pump]];
                if (running[pump] && fuel[pump] > 0 && there > 0) {
                    int away = Math.min(power[pump], there);
                    land.water[cell[pump]] = there - away;
                    taken[pump] += away;
                    fuel[pump]--;
                }
            }
        }

        int fuelOfAll() {
            int sum = 0;
            for (int pump = 0; pump < count; pump++) {
                sum += fuel[pump];
            }
            return sum;
        }

        int tell(int pump, int what) {
            switch (what) {
                case 0:
                    return xOf(pump);
                case 1:
                    return yOf(pump);
                case 2:
                    return power[pump];
                case 3:
                    return fuel[pump];
                case 4:
                    return running[pump] ? 1 : 0;
                default:
                    return taken[pump];
            }
        }
    }

    private static final class Gauges extends Numbered {
        final int[] mark = new int[MOST_GAUGES];

        Gauges() {
            super(new int[MOST_GAUGES]);
        }

        int hang(int place, int itsMark) {
            int number = count;
            cell[number] = place;
            mark[number] = itsMark;
            count++;
            return number;
        }

        void copyFrom(Gauges other) {
            copyCells(other);
            for (int gauge = 0; gauge < count; gauge++) {
                mark[gauge] = other.mark[gauge];
            }
        }

        boolean isRinging(int gauge, Land land) {
            return land.water[cell[gauge]] >= mark[gauge];
        }

        int ringing(Land land) {
            int sum = 0;
            for (int gauge = 0; gauge < count; gauge++) {
                sum += isRinging(gauge, land) ? 1 : 0;
            }
            return sum;
        }

        int tell(int gauge, int what, Land land) {
            switch (what) {
                case 0:
                    return xOf(gauge);
                case 1:
                    return yOf(gauge);
                case 2:
                    return mark[gauge];
                case 3:
                    return land.water[cell[gauge]];
                default:
                    return isRinging(gauge, land) ? 1 : 0;
            }
        }
    }

    private static final class Refuges extends Numbered {
        final int[] room = new int[MOST_REFUGES];
        final int[] people = new int[MOST_REFUGES];
        final int[] guests = new int[MOST_REFUGES];

        Refuges() {
            super(new int[MOST_REFUGES]);
        }

        int open(int place, int itsRoom) {
            int number = count;
            cell[number] = place;
            room[number] = itsRoom;
            count++;
            return number;
        }

        void copyFrom(Refuges other) {
            copyCells(other);
            for (int refuge = 0; refuge < count; refuge++) {
                room[refuge] = other.room[refuge];
                people[refuge] = other.people[refuge];
                guests[refuge] = other.guests[refuge];
            }
        }

        boolean hasRoomFor(int refuge, int howMany) {
            return room[refuge] - people[refuge] >= howMany;
        }

        void takeIn(int refuge, int howMany) {
            people[refuge] += howMany;
            guests[refuge]++;
        }

        int nearestWithRoom(int howMany, Ways ways) {
            int nearest = NONE;
            int itsCell = NONE;
            for (int refuge = 0; refuge < count; refuge++) {
                if (hasRoomFor(refuge, howMany) && ways.isNearer(cell[refuge], itsCell)) {
                    nearest = refuge;
                    itsCell = cell[refuge];
                }
            }
            return nearest;
        }

        int tell(int refuge, int what) {
            switch (what) {
                case 0:
                    return xOf(refuge);
                case 1:
                    return yOf(refuge);
                case 2:
                    return room[refuge];
                case 3:
                    return people[refuge];
                default:
                    return guests[refuge];
            }
        }
    }

    private static final class Households extends Numbered {
        final int[] people = new int[MOST_HOUSEHOLDS];
        final int[] state = new int[MOST_HOUSEHOLDS];
        int lostPeople;

        Households() {
            super(new int[MOST_HOUSEHOLDS]);
        }

        int moveIn(int place, int itsPeople) {
            int number = count;
            cell[number] = place;
            people[number] = itsPeople;
            state[number] = AT_HOME;
            count++;
            return number;
        }

        void copyFrom(Households other) {
            copyCells(other);
            lostPeople = other.lostPeople;
            for (int household = 0; household < count; household++) {
                people[household] = other.people[household];
                state[household] = other.state[household];
            }
        }

        boolean isOut(int household) {
            return state[household] == AT_HOME || state[household] == ON_ITS_WAY;
        }

        int peopleWho(int areInState) {
            int sum = 0;
            for (int household = 0; household < count; household++) {
                sum += state[household] == areInState ? people[household] : 0;
            }
            return sum;
        }

        int peopleOutAt(int place) {
            int sum = 0;
            for (int household = 0; household < count; household++) {
                sum += isOut(household) && cell[household] == place ? people[household] : 0;
            }
            return sum;
        }

        int nearestAtHome(Ways ways) {
            int nearest = NONE;
            int itsCell = NONE;
            for (int household = 0; household < count; household++) {
                if (state[household] == AT_HOME && ways.isNearer(cell[household], itsCell)) {
                    nearest = household;
                    itsCell = cell[household];
                }
            }
            return nearest;
        }

        /** Returns how many households are on their way by this. */
        int warnAround(int place) {
            int warned = 0;
            for (int household = 0; household < count; household++) {
                if (state[household] == AT_HOME && Land.isSameOrNeighbour(place, cell[household])) {
                    state[household] = ON_ITS_WAY;
                    warned++;
                }
            }
            return warned;
        }

        void goToRefuges(Refuges refuges, Ways ways, Land land) {
            for (int household = 0; household < count; household++) {
                if (state[household] == ON_ITS_WAY) {
                    ways.search(cell[household], land);
                    int nearest = refuges.nearestWithRoom(people[household], ways);
                    if (nearest != NONE) {
                        cell[household] = ways.firstStop[refuges.cell[nearest]];
                    }
                    enterRefuge(household, refuges);
                }
            }
        }

        void enterRefuge(int household, Refuges refuges) {
            int here = refuges.firstIn(cell[household]);
            if (here != NONE && refuges.hasRoomFor(here, people[household])) {
                refuges.takeIn(here, people[household]);
                state[household] = IN_REFUGE;
            }
        }

        void drown(Land land) {
            for (int household = 0; household < count; household++) {
                if (isOut(household) && land.water[cell[household]] >= DEADLY_WATER) {
                    people[household]--;
                    lostPeople++;
                    if (people[household] <= 0) {
                        state[household] = LOST;
                    }
                }
            }
        }
    }

    private static final class Callers extends Numbered {
        final int[] warned = new int[MOST_CALLERS];

        Callers() {
            super(new int[MOST_CALLERS]);
        }

        int post(int place) {
            int number = count;
            cell[number] = place;
            count++;
            return number;
        }

        void copyFrom(Callers other) {
            copyCells(other);
            for (int caller = 0; caller < count; caller++) {
                warned[caller] = other.warned[caller];
            }
        }

        void callOut(Households households, Ways ways, Land land) {
            for (int caller = 0; caller < count; caller++) {
                ways.search(cell[caller], land);
                int nearest = households.nearestAtHome(ways);
                if (nearest != NONE) {
                    cell[caller] = ways.firstStop[households.cell[nearest]];
                }
                warned[caller] += households.warnAround(cell[caller]);
            }
        }

        int tell(int caller, int what) {
            switch (what) {
                case 0:
                    return xOf(caller);
                case 1:
                    return yOf(caller);
                default:
                    return warned[caller];
            }
        }
    }
}
