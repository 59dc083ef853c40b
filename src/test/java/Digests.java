import java.math.BigInteger;
import java.util.ArrayList;
import java.util.List;

/** The digest as promise 28 tells it, from the other answers of the clock. */
final class Digests {
    private Digests() {
    }

    static long of(RemontoirClock clock, String buffer) {
        long hash = 2311;
        for (long value : values(clock, buffer)) {
            hash = 31 * hash + value;
        }
        return hash;
    }

    /** The same without overflow, of which the lowest 64 bits are taken in the end. */
    static long inBigNumbers(RemontoirClock clock, String buffer) {
        BigInteger hash = BigInteger.valueOf(2311);
        for (long value : values(clock, buffer)) {
            hash = hash.multiply(BigInteger.valueOf(31)).add(BigInteger.valueOf(value));
        }
        return hash.longValue();
    }

    private static List<Long> values(RemontoirClock clock, String buffer) {
        List<Long> values = new ArrayList<>();
        for (int i = 0; i <= 17; i++) {
            values.add((long) clock.count(i));
        }
        for (int i = 0; i <= 5; i++) {
            values.add((long) clock.setting(i));
        }
        for (int i = 0; i < 9; i++) {
            values.add((long) clock.weight(i / 3, i % 3));
        }
        for (int i = 0; i < 6 * clock.count(14); i++) {
            values.add((long) clock.winder(i / 6, i % 6));
        }
        for (int i = 0; i < 2 * clock.count(5); i++) {
            values.add((long) clock.debt(i / 2, i % 2));
        }
        for (int i = 0; i <= 2; i++) {
            values.add((long) clock.why(i));
        }
        for (int i = 0; i <= 9; i++) {
            values.add((long) clock.ifPassed(60, i));
        }
        values.add((long) clock.standsIn());
        values.add((long) clock.paidIn());
        values.add((long) clock.leastTurns(240));
        values.add((long) clock.downFirst());
        values.add(Double.doubleToLongBits(clock.lostShare()));
        values.add((long) buffer.length());
        for (char sign : buffer.toCharArray()) {
            values.add((long) sign);
        }
        return values;
    }
}
