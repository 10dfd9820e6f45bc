import java.util.Arrays;

/**
 * What the Terms say of every town and of every hour, looked for in many towns. It asks for nothing but what two
 * looks at a town tell, so that it knows nothing of how an hour is worked out.
 */
public final class TruthTest {
    private static final int TOWNS = 400;
    private static final int[] HOURS = {0, 1, 2, 3, 4, 5, 6, 7, 9, 12, 20, 35};

    private static String told;

    public static void main(String[] args) {
        for (int town = 1; town <= TOWNS; town++) {
            Look first = lookAt(town, 0);
            for (int hours : HOURS) {
                Look before = lookAt(town, hours);
                Look behind = lookAt(town, hours + 1);
                told = "town " + town + ", hour " + hours + ": ";
                sums(first, before);
                things(before);
                households(before);
                waterOfTheHour(town, before, behind);
                pumpsOfTheHour(first, before, behind);
                callersOfTheHour(before, behind);
                householdsOfTheHour(before, behind);
                waysOfTheHour(before, behind);
            }
        }
        aheadIsWhatComes();
        Due.end();
    }

    private static FloodWardens at(int town, int hours) {
        FloodWardens w = Chance.town(town);
        for (int left = hours; left > 0; left -= 36) {
            w.pass(Math.min(left, 36));
        }
        return w;
    }

    private static Look lookAt(int town, int hours) {
        return new Look(at(town, hours));
    }

    private static void same(String what, int got, int due) {
        Due.same(told + what, got, due);
    }

    private static void holds(String what, boolean holds) {
        Due.holds(told + what, holds);
    }

    // ---- at an hour

    private static void sums(Look first, Look now) {
        int settled = Look.sum(first.households, 2);
        same("people are nowhere else", now.count[2] + now.count[3] + now.count[4] + now.count[5], settled);
        same("households", now.count[1], now.households.length);
        same("people at home", now.count[2], now.peopleWho(0));
        same("people on their way", now.count[3], now.peopleWho(1));
        same("people in refuges", now.count[4], now.peopleWho(2));
        same("people of refuges", now.count[4], Look.sum(now.refuges, 3));
        same("households of refuges", now.householdsWho(2), Look.sum(now.refuges, 4));
        same("people of cells", Arrays.stream(now.people).sum(), now.count[2] + now.count[3]);
        same("boards that ring", now.count[9], Look.sum(now.gauges, 4));
        same("streets with water", now.count[6], (int) Arrays.stream(now.water, 10, 80).filter(w -> w > 0).count());
        same("water in the streets", now.count[7], Arrays.stream(now.water, 10, 80).sum());
        int all = settled - now.count[5];
        Due.sameShare(told + "share", now.share, all == 0 ? 0 : now.count[4] / (double) all);
    }

    private static void things(Look now) {
        for (int water : now.water) {
            holds("there is 0 to 40 of water", water >= 0 && water <= 40);
        }
        for (int[] gauge : now.gauges) {
            same("water at a board", gauge[3], now.waterAt(gauge));
            same("a board rings", gauge[4], gauge[3] >= gauge[2] ? 1 : 0);
        }
        for (int[] refuge : now.refuges) {
            int people = 0;
            for (int[] household : now.households) {
                people += household[3] == 2 && Look.steps(household, refuge) == 0 ? household[2] : 0;
            }
            same("people in a refuge are in its cell", refuge[3], people);
            holds("they have room", people <= refuge[2]);
        }
    }

    private static void households(Look now) {
        for (int[] household : now.households) {
            holds("only a lost household has nobody", household[2] == 0 == (household[3] == 3));
            if (household[3] >= 2) {
                same("steps of one that walks no more", household[4], household[3] == 2 ? 0 : -1);
            } else {
                stepsToARefugeWithRoom(now, household);
            }
        }
    }

    private static void stepsToARefugeWithRoom(Look now, int[] household) {
        int[] painted = painted(now, household);
        int due = -1;
        for (int[] refuge : now.refuges) {
            int steps = painted[10 * refuge[1] + refuge[0]];
            boolean fits = refuge[2] - refuge[3] >= household[2];
            due = fits && steps >= 0 && (due < 0 || steps < due) ? steps : due;
        }
        same("steps to a refuge with room", household[4], due);
    }

    /** The steps to each cell, or -1: coat after coat is painted beside the one before, where it is dry enough. */
    private static int[] painted(Look now, int[] from) {
        int[] steps = new int[80];
        Arrays.fill(steps, -1);
        steps[10 * from[1] + from[0]] = 0;
        for (int coat = 1; coat < 80; coat++) {
            for (int place = 0; place < 80; place++) {
                boolean beside = place > 9 && steps[place - 10] == coat - 1 || place < 70 && steps[place + 10] == coat - 1
                        || place % 10 > 0 && steps[place - 1] == coat - 1
                        || place % 10 < 9 && steps[place + 1] == coat - 1;
                steps[place] = steps[place] < 0 && beside && now.water[place] < 3 ? coat : steps[place];
            }
        }
        return steps;
    }

    // ---- in an hour

    /** What is there behind the hour was there before it, came by the river, or a pump took it away. */
    private static void waterOfTheHour(int town, Look before, Look behind) {
        int river = 10 * at(town, before.count[0]).setRiver(before.count[0] % 12, 0);
        int taken = Look.sum(behind.pumps, 5) - Look.sum(before.pumps, 5);
        int due = river + before.count[7] - taken;
        int got = Arrays.stream(behind.water).sum();
        boolean cut = Arrays.stream(behind.water).anyMatch(water -> water >= 35);
        holds("no water is gone or comes by itself", got == due || cut && got < due);
        same("the hour", behind.count[0], before.count[0] + 1);
    }

    private static void pumpsOfTheHour(Look first, Look before, Look behind) {
        for (int number = 0; number < before.pumps.length; number++) {
            int[] was = before.pumps[number];
            int[] is = behind.pumps[number];
            int taken = is[5] - was[5];
            same("fuel for what is taken", was[3] - is[3], taken > 0 ? 1 : 0);
            holds("no more than its power", taken <= was[2]);
            holds("less than its power, only if nothing is left", taken == was[2] || was[3] == 0 || was[4] == 0
                    || behind.waterAt(is) == 0);
            holds("nothing without fuel or when stopped", taken == 0 || was[3] > 0 && was[4] == 1);
            same("power", is[2], first.pumps[number][2]);
            same("runs", is[4], first.pumps[number][4]);
        }
    }

    private static void callersOfTheHour(Look before, Look behind) {
        boolean bell = behind.count[9] > 0;
        for (int number = 0; number < before.callers.length; number++) {
            int[] was = before.callers[number];
            int[] is = behind.callers[number];
            int steps = Look.steps(was, is);
            holds("one step at most, and none without a bell", steps == 0 || steps == 1 && bell);
            holds("a step into a cell that can be walked", steps == 0 || behind.waterAt(is) < 3);
            holds("none is warned without a bell", was[2] == is[2] || is[2] > was[2] && bell);
            for (int[] household : behind.households) {
                holds("nobody beside a caller is at home, where a bell rings",
                        !bell || household[3] != 0 || Look.steps(household, is) > 1);
            }
        }
        firstCaller(before, behind, bell);
        int warned = Look.sum(behind.callers, 2) - Look.sum(before.callers, 2);
        int least = leavingHome(before, behind, false);
        holds("who leaves home is warned, and nobody else", warned >= least
                && warned <= least + leavingHome(before, behind, true));
    }

    /** All are at home yet when it looks, and nobody moves the water until the hour is over. */
    private static void firstCaller(Look before, Look behind, boolean bell) {
        if (!bell || before.callers.length == 0) {
            return;
        }
        int[] was = before.callers[0];
        int[] is = behind.callers[0];
        int[] painted = painted(behind, was);
        int[] goal = null;
        int least = 80;
        for (int[] household : before.households) {
            int steps = painted[10 * household[1] + household[0]];
            if (household[3] == 0 && steps >= 0 && steps < least) {
                least = steps;
                goal = household;
            }
        }
        same("the first caller goes, if there is somebody to go to", Look.steps(was, is),
                goal != null && least > 0 ? 1 : 0);
        if (goal != null && least > 0) {
            int[] rest = painted(behind, is);
            same("it goes to the nearest one", rest[10 * goal[1] + goal[0]], least - 1);
        }
    }

    /** How many were at home and are not any more: those who are lost now, or the others. */
    private static int leavingHome(Look before, Look behind, boolean lost) {
        int households = 0;
        for (int number = 0; number < before.households.length; number++) {
            int is = behind.households[number][3];
            households += before.households[number][3] == 0 && is != 0 && is == 3 == lost ? 1 : 0;
        }
        return households;
    }

    private static void householdsOfTheHour(Look before, Look behind) {
        for (int number = 0; number < before.households.length; number++) {
            int[] was = before.households[number];
            int[] is = behind.households[number];
            int steps = Look.steps(was, is);
            boolean out = was[3] < 2;
            holds("nobody comes back", is[3] >= was[3]);
            holds("one step at most, and none at home or behind the way", steps == 0 || steps == 1 && out && is[3] != 0);
            holds("a step into a cell that can be walked", steps == 0 || behind.waterAt(is) < 3);
            boolean drowns = out && is[3] != 2 && behind.waterAt(is) >= 5;
            same("people lost", was[2] - is[2], drowns ? 1 : 0);
            for (int[] refuge : behind.refuges) {
                holds("nobody stays before a refuge with room", is[3] != 1 || Look.steps(is, refuge) > 0
                        || refuge[2] - refuge[3] < was[2]);
            }
        }
        same("people lost", behind.count[5] - before.count[5],
                Look.sum(before.households, 2) - Look.sum(behind.households, 2));
    }

    /** Where the water is as before and no room is taken, the way of a household is what it was told before. */
    private static void waysOfTheHour(Look before, Look behind) {
        if (!Arrays.equals(before.water, behind.water)) {
            return;
        }
        int enter = behind.householdsWho(2) - before.householdsWho(2);
        for (int number = 0; number < before.households.length; number++) {
            int[] was = before.households[number];
            int[] is = behind.households[number];
            boolean enters = is[3] == 2 && was[3] != 2;
            boolean walked = was[3] == 1 || was[3] == 0 && is[3] == 1;
            if (walked && enter == (enters ? 1 : 0) && was[2] == is[2]) {
                same("enters by its last step", enters ? 1 : 0, was[4] == 0 || was[4] == 1 ? 1 : 0);
                same("steps left", is[4], Math.max(was[4] - 1, was[4] < 0 ? -1 : 0));
                same("stays without a way", Look.steps(was, is), was[4] > 0 ? 1 : 0);
            }
        }
    }

    // ---- ahead

    private static void aheadIsWhatComes() {
        for (int town = 1; town <= TOWNS; town++) {
            told = "town " + town + ": ";
            boardsRingAsTold(town);
            foreseenIsWhatComes(town, 1 + town % 36);
            advisedIsBest(town, 1 + town % 6);
        }
    }

    private static void boardsRingAsTold(int town) {
        FloodWardens asked = Chance.town(town);
        FloodWardens w = Chance.town(town);
        int boards = new Look(Chance.town(town)).gauges.length;
        int[] first = new int[boards];
        Arrays.fill(first, -1);
        for (int hour = 0; hour <= 48; hour++) {
            for (int gauge = 0; gauge < boards; gauge++) {
                first[gauge] = first[gauge] < 0 && w.gauge(gauge, 4) == 1 ? hour : first[gauge];
            }
            w.pass(1);
        }
        for (int gauge = 0; gauge < boards; gauge++) {
            same("rings(" + gauge + ")", asked.rings(gauge), first[gauge]);
        }
    }

    private static void foreseenIsWhatComes(int town, int hours) {
        FloodWardens w = Chance.town(town);
        int[] foreseen = {w.foresee(hours, 0), w.foresee(hours, 1), w.foresee(hours, 2), w.foresee(hours, 3)};
        Look then = lookAt(town, hours);
        int[] comes = {then.count[4], then.count[5], then.count[6], Look.sum(then.pumps, 3)};
        holds("foresee(" + hours + ", ..)", Arrays.equals(foreseen, comes));
    }

    private static void advisedIsBest(int town, int hours) {
        int least = lookAt(town, hours).count[7];
        int best = -1;
        for (int x = 0; x < 10; x++) {
            FloodWardens w = Chance.town(town);
            int bags = w.cell(x, 1, 1);
            if (bags < 5) {
                w.lay(x, 1, bags + 1);
                w.pass(hours);
                best = w.count(7) < least ? x : best;
                least = Math.min(least, w.count(7));
            }
        }
        same("advise(" + hours + ")", Chance.town(town).advise(hours), best);
    }
}
