/** Brings a clock without winders and without silence to an edge; minutes pass in that, and the hands move. */
final class Bring {
    private Bring() {
    }

    /**
     * A spring that is set smaller loses charge; so turns can be taken from the weight in few minutes.
     * Behind this the charge is 29, or the size of the spring if that is less.
     */
    static void goingTo(RemontoirClock clock, int height) {
        int size = clock.setting(0);
        int limit = clock.setting(1);
        clock.wind(0, 200);
        clock.set(1, 20);
        for (int turns : new int[] {28, 28, 28, 28, 28, 28, 4, 28}) {
            clock.setHands(1);
            clock.set(0, 2);
            clock.set(0, 2 + turns);
            clock.pass(1);
        }
        if (height > 0) {
            clock.wind(0, height);
        }
        clock.setHands(1);
        clock.set(0, size);
        clock.set(1, limit);
        Check.same("brought: height of the going weight", clock.weight(0, 0), height);
        Check.same("brought: charge", clock.count(2), Math.min(29, size));
    }

    /** To a charge that is less than the one that is there. */
    static void chargeTo(RemontoirClock clock, int charge) {
        int size = clock.setting(0);
        int limit = clock.setting(1);
        clock.set(0, Math.max(2, charge));
        clock.set(0, size);
        clock.set(1, 0);
        clock.setHands(1);
        for (int left = 2; left > charge; left--) {
            clock.pass(1);
        }
        clock.setHands(1);
        clock.set(1, limit);
        Check.same("brought: charge", clock.count(2), charge);
    }

    static void strikingTo(RemontoirClock clock, int height) {
        int pace = clock.setting(3);
        clock.set(3, 12);
        for (int i = 0; i < 200 && clock.weight(1, 0) > height; i++) {
            int strokes = Math.min(12, clock.weight(1, 0) - height);
            clock.setHands(60 * strokes - 1);
            clock.pass(1);
        }
        clock.set(3, pace);
        clock.setHands(1);
        clock.wind(0, 200);
        clock.wind(2, 200);
        Check.same("brought: height of the striking weight", clock.weight(1, 0), height);
        Check.same("brought: no debts", clock.count(5), 0);
    }

    static void chimingTo(RemontoirClock clock, int height) {
        for (int i = 0; i < 200 && clock.weight(2, 0) > height; i++) {
            int phrases = Math.min(3, Math.max(1, (clock.weight(2, 0) - height) / 2));
            clock.setHands(15 * phrases - 1);
            clock.pass(1);
        }
        if (clock.weight(2, 0) < height) {
            clock.wind(2, 1);
        }
        clock.setHands(1);
        clock.wind(0, 200);
        Check.same("brought: height of the chiming weight", clock.weight(2, 0), height);
    }

    /** The hands go on to this time: for a clock that goes on. */
    static void minuteTo(RemontoirClock clock, int time) {
        clock.setHands(time == 0 ? 719 : time - 1);
        clock.pass(1);
        Check.same("brought: time", clock.count(1), time);
    }

    /** Debts of which nothing is struck, because the striking weight is down. */
    static void debtsOf(RemontoirClock clock, int... hours) {
        strikingTo(clock, 0);
        for (int hour : hours) {
            minuteTo(clock, hour % 12 * 60);
        }
        Check.same("brought: debts", clock.count(5), Math.min(4, hours.length));
    }

    static void minuteNumberTo(RemontoirClock clock, int number) {
        while (clock.count(0) < number) {
            clock.pass(Math.min(720, number - clock.count(0)));
        }
        Check.same("brought: number of the minute", clock.count(0), number);
    }
}
