/** What a town tells at an hour, so that it can be compared with what it tells an hour later; takes some 310 calls. */
final class Look {
    final int[] count = new int[10];
    final int[] water = new int[80];
    final int[] people = new int[80];
    final int[][] pumps;
    final int[][] gauges;
    final int[][] refuges;
    final int[][] households;
    final int[][] callers;
    final double share;

    Look(FloodWardens w) {
        for (int what = 0; what < 10; what++) {
            count[what] = w.count(what);
        }
        for (int place = 0; place < 80; place++) {
            water[place] = w.cell(place % 10, place / 10, 2);
            people[place] = w.cell(place % 10, place / 10, 4);
        }
        pumps = told(w, Call.PUMP, 5, 6);
        gauges = told(w, Call.GAUGE, 4, 5);
        refuges = told(w, Call.REFUGE, 4, 5);
        households = told(w, Call.HOUSEHOLD, 10, 5);
        callers = told(w, Call.CALLER, 3, 3);
        share = w.share();
    }

    private static int[][] told(FloodWardens w, Call call, int most, int facts) {
        int things = 0;
        while (things < most && !call.on(w, things, 0).endsWith("Exception")) {
            things++;
        }
        int[][] told = new int[things][facts];
        for (int number = 0; number < things; number++) {
            for (int what = 0; what < facts; what++) {
                told[number][what] = Integer.parseInt(call.on(w, number, what));
            }
        }
        return told;
    }

    int waterAt(int[] thing) {
        return water[10 * thing[1] + thing[0]];
    }

    static int steps(int[] one, int[] other) {
        return Math.abs(one[0] - other[0]) + Math.abs(one[1] - other[1]);
    }

    /** The fact of all of a kind, added. */
    static int sum(int[][] things, int what) {
        int sum = 0;
        for (int[] thing : things) {
            sum += thing[what];
        }
        return sum;
    }

    int householdsWho(int areInState) {
        int households = 0;
        for (int[] household : this.households) {
            households += household[3] == areInState ? 1 : 0;
        }
        return households;
    }

    int peopleWho(int areInState) {
        int people = 0;
        for (int[] household : households) {
            people += household[3] == areInState ? household[2] : 0;
        }
        return people;
    }
}
