/** The digest as promise 28 tells it, from the other answers of the clock. */
final class Digests {
    private Digests() {
    }

    static long of(RemontoirClock clock, String buffer) {
        long hash = 2311;
        for (int i = 0; i <= 17; i++) {
            hash = 31 * hash + clock.count(i);
        }
        for (int i = 0; i <= 5; i++) {
            hash = 31 * hash + clock.setting(i);
        }
        for (int i = 0; i < 9; i++) {
            hash = 31 * hash + clock.weight(i / 3, i % 3);
        }
        for (int i = 0; i < 6 * clock.count(14); i++) {
            hash = 31 * hash + clock.winder(i / 6, i % 6);
        }
        for (int i = 0; i < 2 * clock.count(5); i++) {
            hash = 31 * hash + clock.debt(i / 2, i % 2);
        }
        for (int i = 0; i <= 2; i++) {
            hash = 31 * hash + clock.why(i);
        }
        for (int i = 0; i <= 9; i++) {
            hash = 31 * hash + clock.ifPassed(60, i);
        }
        hash = 31 * hash + clock.standsIn();
        hash = 31 * hash + clock.paidIn();
        hash = 31 * hash + clock.leastTurns(240);
        hash = 31 * hash + clock.downFirst();
        hash = 31 * hash + Double.doubleToLongBits(clock.lostShare());
        hash = 31 * hash + buffer.length();
        for (char sign : buffer.toCharArray()) {
            hash = 31 * hash + sign;
        }
        return hash;
    }
}
