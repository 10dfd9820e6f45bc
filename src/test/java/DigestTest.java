import java.math.BigInteger;
import java.util.ArrayList;
import java.util.List;
import java.util.Locale;

/** Promise 23: the checksum, told again by the other calls and numbers without a bound. */
public final class DigestTest {
    private interface Making {
        FloodWardens make();
    }

    private static final BigInteger OF_64_BITS = BigInteger.ONE.shiftLeft(64);

    public static void main(String[] args) {
        ofANewTown();
        ofOneOfEachKind();
        wrapsAround();
        eachNumberCounts();
        tableIsTheLastOfANewTown();
        aWayThatIsNoneCountsAsMinus1();
        hoursLater();
        Due.end();
    }

    /** The checksums due here and in the next test were worked out from the document alone, by another program. */
    private static void ofANewTown() {
        Due.same("digest() of a new town", new FloodWardens().digest(), -2636346732140698491L);
    }

    private static FloodWardens oneOfEachKind() {
        FloodWardens w = new FloodWardens();
        for (int hour = 0; hour < 12; hour++) {
            w.setRiver(hour, 12 - hour);
        }
        w.setGround(9, 7, 7);
        w.lay(3, 1, 4);
        w.addPump(2, 2, 3, 9);
        w.addPump(0, 0, 1, 2);
        w.run(1);
        w.addGauge(4, 2, 3);
        w.addRefuge(5, 6, 4);
        w.settle(5, 2, 4);
        w.settle(7, 1, 5);
        w.addCaller(5, 3);
        return w;
    }

    private static void ofOneOfEachKind() {
        Due.same("digest() of one of each kind", oneOfEachKind().digest(), 1365293448132355852L);
    }

    private static void wrapsAround() {
        boolean negative = false;
        for (Towns town : Towns.values()) {
            BigInteger whole = wholeChecksum(town::make);
            Due.holds(town + ": the checksum has far more than 64 bits", whole.bitLength() > 2000);
            Due.same(town + ": digest()", town.make().digest(), whole.longValue());
            BigInteger rest = whole.mod(OF_64_BITS);
            negative = negative || rest.testBit(63) && town.make().digest() < 0;
        }
        Due.holds("some of them are below 0, by the bit with the number 63", negative);
    }

    private static void eachNumberCounts() {
        List<Long> seen = new ArrayList<>();
        seen.add(new FloodWardens().digest());
        for (int hour = 0; hour < 12; hour++) {
            FloodWardens w = new FloodWardens();
            w.setRiver(hour, 1);
            seen.add(w.digest());
        }
        for (int place = 0; place < 80; place++) {
            FloodWardens ground = new FloodWardens();
            ground.setGround(place % 10, place / 10, 3);
            seen.add(ground.digest());
            FloodWardens bags = new FloodWardens();
            bags.lay(place % 10, place / 10, 1);
            seen.add(bags.digest());
        }
        FloodWardens later = new FloodWardens();
        later.pass(1);
        seen.add(later.digest());
        for (int one = 0; one < seen.size(); one++) {
            Due.same("how often town " + one + " is seen", seen.indexOf(seen.get(one)), one);
        }
    }

    /** Behind the table nothing follows in a new town, so that its last hour has the weight 1, the one before it 31. */
    private static void tableIsTheLastOfANewTown() {
        long weight = 1;
        for (int hour = 11; hour >= 0; hour--) {
            FloodWardens w = new FloodWardens();
            w.setRiver(hour, 1);
            Due.same("1 at the hour " + hour, w.digest() - new FloodWardens().digest(), weight);
            weight *= 31;
        }
    }

    private static FloodWardens oneHousehold() {
        FloodWardens w = new FloodWardens();
        w.settle(0, 0, 1);
        return w;
    }

    private static void aWayThatIsNoneCountsAsMinus1() {
        FloodWardens w = oneHousehold();
        Due.same("without a way", w.household(0, 4), -1);
        Due.same("the last number of all is -1", w.digest(), wholeChecksum(DigestTest::oneHousehold).longValue());
    }

    private static void hoursLater() {
        for (int hours = 1; hours <= 36; hours += 7) {
            int passed = hours;
            Making one = () -> later(oneOfEachKind(), passed);
            Due.same("one of each kind, " + hours + " hours later", one.make().digest(), wholeChecksum(one).longValue());
            for (Towns town : Towns.values()) {
                Making other = () -> later(town.make(), passed);
                String told = town.toString().toLowerCase(Locale.ROOT) + ", " + hours + " hours later";
                Due.same(told, other.make().digest(), wholeChecksum(other).longValue());
            }
        }
    }

    private static FloodWardens later(FloodWardens w, int hours) {
        w.pass(hours);
        return w;
    }

    // ---- the checksum by the other calls, each part asked of a town of its own: no object takes more than 512 calls

    private static BigInteger wholeChecksum(Making town) {
        List<String> numbers = new ArrayList<>();
        FloodWardens w = town.make();
        for (int what = 0; what < 10; what++) {
            numbers.add(Call.COUNT.on(w, what));
        }
        for (int y = 0; y < 8; y++) {
            w = town.make();
            for (int place = 0; place < 60; place++) {
                numbers.add(Call.CELL.on(w, place / 6, y, place % 6));
            }
        }
        w = town.make();
        for (int hour = 0; hour < 12; hour++) {
            numbers.add(Call.SET_RIVER.on(w, hour, 0));
        }
        addFacts(numbers, town.make(), Call.PUMP, 6);
        addFacts(numbers, town.make(), Call.GAUGE, 5);
        addFacts(numbers, town.make(), Call.REFUGE, 5);
        addFacts(numbers, town.make(), Call.HOUSEHOLD, 5);
        addFacts(numbers, town.make(), Call.CALLER, 3);
        BigInteger d = BigInteger.valueOf(1013);
        for (String number : numbers) {
            d = d.multiply(BigInteger.valueOf(31)).add(new BigInteger(number));
        }
        return d;
    }

    private static void addFacts(List<String> numbers, FloodWardens w, Call call, int facts) {
        for (int number = 0; number < 10 && !call.on(w, number, 0).endsWith("Exception"); number++) {
            for (int what = 0; what < facts; what++) {
                numbers.add(call.on(w, number, what));
            }
        }
    }
}
